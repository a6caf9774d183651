/-! QuakeNet.describe(III)I -/
def b_X10_describe_0 (n : Nat) (rec : Nat → List Value → xH → xO) (a0 : Nat) (a1 : Int32) (a2 : Int32) (a3 : Int32) (P : xH) : xO :=
  (f_X10_needWithin n 0 [.int a1, .int ((-1)), .int 99] P).bind fun r2 => xUt r2 fun P1 =>
  (f_X10_needWithin n 0 [.int a2, .int ((-1)), .int 99] P1).bind fun r5 => xUt r5 fun P4 =>
  (f_X10_needWithin n 0 [.int a3, .int ((-1)), .int 9] P4).bind fun r8 => xUt r8 fun P7 =>
  (rA P7 a0 10 1).bind fun v10 =>
  (rA P7 v10 7 6).bind fun v12 =>
  (kO P7 v12 2).bind fun _ =>
  (f_X2_add n 0 [.ref v12, .int a1, .int a2, .int a3] P7).bind fun r15 => xI r15 fun v17 P14 =>
  some (.inl (some (.int v17)), P14)
def lay_X10_describe : Nat → List Value → Option (xL × List Value)
  | 0, [a0, a1, a2, a3] => some ([some a0, some a1, some a2, some a3], [])
  | _, _ => none
def f_X10_describe : Nat → Nat → List Value → xH → xO
  | 0 => fun _ _ _ => none
  | n + 1 => fun pc env P => match pc, env with
    | 0, [.ref a0, .int a1, .int a2, .int a3] => b_X10_describe_0 n (f_X10_describe n) a0 a1 a2 a3 P
    | _, _ => none
set_option maxHeartbeats 2000000 in
set_option maxRecDepth 20000 in
theorem t_X10_describe_0 {G : xG} {l : Launch} (hl : l.stackTraces = false) {n : Nat} {rec : Nat → List Value → xH → xO} (hrec : ∀ pc env P z, rec pc env P = some z → ∀ L st, lay_X10_describe pc env = some (L, st) → ∀ Q : xR → xH → Prop, Q z.1 z.2 → Wp G l 9 mX10_describe pc L st P Q) {a0 a1 a2 a3} {P : xH} {z : xR × xH} (h : b_X10_describe_0 n rec a0 a1 a2 a3 P = some z) {Q : xR → xH → Prop} (hQ : Q z.1 z.2) : Wp G l 9 mX10_describe 0 [some (.ref a0), some (.int a1), some (.int a2), some (.int a3)] [] P Q := by
  unfold b_X10_describe_0 at h
  refine x_iload_n dX10_describe_0 rfl ?_
  refine x_iconst (-1) dX10_describe_1 (by decide) ?_
  refine x_bipush 99 dX10_describe_2 (by decide) ?_
  obtain ⟨r2, e3, h⟩ := Option.bind_eq_some_iff.mp h
  replace h := xUt_ok h
  rcases h with ⟨P1, hr9, h⟩ | ⟨i8, P8, rfl, rfl⟩
  · subst hr9
    refine x_callS (c_X10_needWithin hl e3) dX10_describe_4 cw_X10_needWithin wl_X10_67 ws_X10_needWithin rfl (by omega) (by decide) rfl (Nat.le_of_ble_eq_true rfl) rfl (fun v9 P9 hq9 => ?_) (fun i9 P9 hq9 => by cases hq9)
    cases hq9
    refine x_iload_n dX10_describe_7 rfl ?_
    refine x_iconst (-1) dX10_describe_8 (by decide) ?_
    refine x_bipush 99 dX10_describe_9 (by decide) ?_
    obtain ⟨r5, e6, h⟩ := Option.bind_eq_some_iff.mp h
    replace h := xUt_ok h
    rcases h with ⟨P4, hr9, h⟩ | ⟨i8, P8, rfl, rfl⟩
    · subst hr9
      refine x_callS (c_X10_needWithin hl e6) dX10_describe_11 cw_X10_needWithin wl_X10_67 ws_X10_needWithin rfl (by omega) (by decide) rfl (Nat.le_of_ble_eq_true rfl) rfl (fun v9 P9 hq9 => ?_) (fun i9 P9 hq9 => by cases hq9)
      cases hq9
      refine x_iload_n dX10_describe_14 rfl ?_
      refine x_iconst (-1) dX10_describe_15 (by decide) ?_
      refine x_bipush 9 dX10_describe_16 (by decide) ?_
      obtain ⟨r8, e9, h⟩ := Option.bind_eq_some_iff.mp h
      replace h := xUt_ok h
      rcases h with ⟨P7, hr9, h⟩ | ⟨i8, P8, rfl, rfl⟩
      · subst hr9
        refine x_callS (c_X10_needWithin hl e9) dX10_describe_18 cw_X10_needWithin wl_X10_67 ws_X10_needWithin rfl (by omega) (by decide) rfl (Nat.le_of_ble_eq_true rfl) rfl (fun v9 P9 hq9 => ?_) (fun i9 P9 hq9 => by cases hq9)
        cases hq9
        refine x_aload_nr dX10_describe_21 rfl ?_
        obtain ⟨v10, e11, h⟩ := Option.bind_eq_some_iff.mp h
        refine k_rA e11 dX10_describe_22 f_X10_19 ?_
        obtain ⟨v12, e13, h⟩ := Option.bind_eq_some_iff.mp h
        refine k_rA e13 dX10_describe_25 f_X10_232 ?_
        refine x_iload_n dX10_describe_28 rfl ?_
        refine x_iload_n dX10_describe_29 rfl ?_
        refine x_iload_n dX10_describe_30 rfl ?_
        obtain ⟨_, e18, h⟩ := Option.bind_eq_some_iff.mp h
        obtain ⟨fse18, e18⟩ := kO_ok e18
        obtain ⟨r15, e16, h⟩ := Option.bind_eq_some_iff.mp h
        replace h := xI_ok h
        obtain ⟨v17, P14, rfl, h⟩ := h
        refine x_callV (c_X2_add hl e16) dX10_describe_31 cw_X2_add wl_X10_236 wi_X2_add wse_X2_add rfl e18 (by decide) rfl (by omega) (by decide) rfl (Nat.le_of_ble_eq_true rfl) rfl (fun v9 P9 hq9 => ?_) (fun i9 P9 hq9 => by cases hq9)
        cases hq9
        cases h
        exact x_iret .int rfl rfl dX10_describe_34 hQ
      · exact x_callS (c_X10_needWithin hl e9) dX10_describe_18 cw_X10_needWithin wl_X10_67 ws_X10_needWithin rfl (by omega) (by decide) rfl (Nat.le_of_ble_eq_true rfl) rfl (fun v9 P9 hq9 => by cases hq9) (fun i9 P9 hq9 => by cases hq9; exact hQ)
    · exact x_callS (c_X10_needWithin hl e6) dX10_describe_11 cw_X10_needWithin wl_X10_67 ws_X10_needWithin rfl (by omega) (by decide) rfl (Nat.le_of_ble_eq_true rfl) rfl (fun v9 P9 hq9 => by cases hq9) (fun i9 P9 hq9 => by cases hq9; exact hQ)
  · exact x_callS (c_X10_needWithin hl e3) dX10_describe_4 cw_X10_needWithin wl_X10_67 ws_X10_needWithin rfl (by omega) (by decide) rfl (Nat.le_of_ble_eq_true rfl) rfl (fun v9 P9 hq9 => by cases hq9) (fun i9 P9 hq9 => by cases hq9; exact hQ)
theorem s_X10_describe {G : xG} {l : Launch} (hl : l.stackTraces = false) : ∀ n pc env P z, f_X10_describe n pc env P = some z → ∀ L st, lay_X10_describe pc env = some (L, st) → ∀ Q : xR → xH → Prop, Q z.1 z.2 → Wp G l 9 mX10_describe pc L st P Q := by
  intro n
  induction n with
  | zero => intro pc env P z h; cases h
  | succ n ih =>
    intro pc env P z h L st hlay Q hQ
    unfold f_X10_describe at h
    split at h
    · cases hlay
      exact t_X10_describe_0 hl ih h hQ
    · cases h
theorem c_X10_describe {G : xG} {l : Launch} (hl : l.stackTraces = false) {n : Nat} {as : List Value} {P : xH} {z : xR × xH} (h : f_X10_describe n 0 as P = some z) : Ct G l 9 mX10_describe as P (fun r P1 => (r, P1) = z) := by
  cases n with
  | zero => cases h
  | succ n =>
    unfold f_X10_describe at h
    split at h
    · exact Ct.of hl (by decide +kernel) wc_X10_describe (Nat.le_of_ble_eq_true rfl) (t_X10_describe_0 hl (s_X10_describe hl _) h rfl)
    all_goals first | (cases h; done) | (rename_i q9 _; exact absurd q9 (by decide)) | (rename_i q9; exact absurd q9 (by decide)) | contradiction
/-! QuakeNet.apart(I)V -/
def b_X10_apart_0 (n : Nat) (rec : Nat → List Value → xH → xO) (a0 : Nat) (a1 : Int32) (P : xH) : xO :=
  (f_X10_needWithin n 0 [.int a1, .int 0, .int 1000] P).bind fun r2 => xUt r2 fun P1 =>
  (rA P1 a0 10 1).bind fun v4 =>
  (rA P1 v4 7 6).bind fun v6 =>
  (wV P1 v6 2 6 (.int a1)).bind fun P8 =>
  some (.inl none, P8)
def lay_X10_apart : Nat → List Value → Option (xL × List Value)
  | 0, [a0, a1] => some ([some a0, some a1], [])
  | _, _ => none
def f_X10_apart : Nat → Nat → List Value → xH → xO
  | 0 => fun _ _ _ => none
  | n + 1 => fun pc env P => match pc, env with
    | 0, [.ref a0, .int a1] => b_X10_apart_0 n (f_X10_apart n) a0 a1 P
    | _, _ => none
set_option maxHeartbeats 2000000 in
set_option maxRecDepth 20000 in
theorem t_X10_apart_0 {G : xG} {l : Launch} (hl : l.stackTraces = false) {n : Nat} {rec : Nat → List Value → xH → xO} (hrec : ∀ pc env P z, rec pc env P = some z → ∀ L st, lay_X10_apart pc env = some (L, st) → ∀ Q : xR → xH → Prop, Q z.1 z.2 → Wp G l 9 mX10_apart pc L st P Q) {a0 a1} {P : xH} {z : xR × xH} (h : b_X10_apart_0 n rec a0 a1 P = some z) {Q : xR → xH → Prop} (hQ : Q z.1 z.2) : Wp G l 9 mX10_apart 0 [some (.ref a0), some (.int a1)] [] P Q := by
  unfold b_X10_apart_0 at h
  refine x_iload_n dX10_apart_0 rfl ?_
  refine x_iconst 0 dX10_apart_1 (by decide) ?_
  refine x_sipush 1000 dX10_apart_2 (by decide) ?_
  obtain ⟨r2, e3, h⟩ := Option.bind_eq_some_iff.mp h
  replace h := xUt_ok h
  rcases h with ⟨P1, hr9, h⟩ | ⟨i8, P8, rfl, rfl⟩
  · subst hr9
    refine x_callS (c_X10_needWithin hl e3) dX10_apart_5 cw_X10_needWithin wl_X10_67 ws_X10_needWithin rfl (by omega) (by decide) rfl (Nat.le_of_ble_eq_true rfl) rfl (fun v9 P9 hq9 => ?_) (fun i9 P9 hq9 => by cases hq9)
    cases hq9
    refine x_aload_nr dX10_apart_8 rfl ?_
    obtain ⟨v4, e5, h⟩ := Option.bind_eq_some_iff.mp h
    refine k_rA e5 dX10_apart_9 f_X10_19 ?_
    obtain ⟨v6, e7, h⟩ := Option.bind_eq_some_iff.mp h
    refine k_rA e7 dX10_apart_12 f_X10_232 ?_
    refine x_iload_n dX10_apart_15 rfl ?_
    obtain ⟨P8, e9, h⟩ := Option.bind_eq_some_iff.mp h
    refine k_wI e9 dX10_apart_16 f_X10_241 (Or.inl (by decide)) rfl ?_
    cases h
    exact x_ret rfl dX10_apart_19 hQ
  · exact x_callS (c_X10_needWithin hl e3) dX10_apart_5 cw_X10_needWithin wl_X10_67 ws_X10_needWithin rfl (by omega) (by decide) rfl (Nat.le_of_ble_eq_true rfl) rfl (fun v9 P9 hq9 => by cases hq9) (fun i9 P9 hq9 => by cases hq9; exact hQ)
theorem s_X10_apart {G : xG} {l : Launch} (hl : l.stackTraces = false) : ∀ n pc env P z, f_X10_apart n pc env P = some z → ∀ L st, lay_X10_apart pc env = some (L, st) → ∀ Q : xR → xH → Prop, Q z.1 z.2 → Wp G l 9 mX10_apart pc L st P Q := by
  intro n
  induction n with
  | zero => intro pc env P z h; cases h
  | succ n ih =>
    intro pc env P z h L st hlay Q hQ
    unfold f_X10_apart at h
    split at h
    · cases hlay
      exact t_X10_apart_0 hl ih h hQ
    · cases h
theorem c_X10_apart {G : xG} {l : Launch} (hl : l.stackTraces = false) {n : Nat} {as : List Value} {P : xH} {z : xR × xH} (h : f_X10_apart n 0 as P = some z) : Ct G l 9 mX10_apart as P (fun r P1 => (r, P1) = z) := by
  cases n with
  | zero => cases h
  | succ n =>
    unfold f_X10_apart at h
    split at h
    · exact Ct.of hl (by decide +kernel) wc_X10_apart (Nat.le_of_ble_eq_true rfl) (t_X10_apart_0 hl (s_X10_apart hl _) h rfl)
    all_goals first | (cases h; done) | (rename_i q9 _; exact absurd q9 (by decide)) | (rename_i q9; exact absurd q9 (by decide)) | contradiction
/-! QuakeNet$Parting.keepIfBetter(II)V -/
def b_X2_keepIfBetter_0 (n : Nat) (rec : Nat → List Value → xH → xO) (a0 : Nat) (a1 : Int32) (a2 : Int32) (P : xH) : xO :=
  (rI P a0 2 7).bind fun v1 =>
  if a2 < v1 then
    rec 16 [.ref a0, .int a1, .int a2] P
  else
    (rI P a0 2 8).bind fun v3 =>
    if v3 ≤ a1 then
      some (.inl none, P)
    else
      rec 16 [.ref a0, .int a1, .int a2] P
def b_X2_keepIfBetter_16 (n : Nat) (rec : Nat → List Value → xH → xO) (a0 : Nat) (a1 : Int32) (a2 : Int32) (P : xH) : xO :=
  (wV P a0 2 7 (.int a2)).bind fun P1 =>
  (wV P1 a0 2 8 (.int a1)).bind fun P3 =>
  (rA P3 a0 2 3).bind fun v5 =>
  (rA P3 a0 2 4).bind fun v7 =>
  (f_X10_copyRow n 0 [.ref v5, .ref v7] P3).bind fun r10 => xU r10 fun P9 =>
  some (.inl none, P9)
def lay_X2_keepIfBetter : Nat → List Value → Option (xL × List Value)
  | 0, [a0, a1, a2] => some ([some a0, some a1, some a2], [])
  | 16, [a0, a1, a2] => some ([some a0, some a1, some a2], [])
  | _, _ => none
def f_X2_keepIfBetter : Nat → Nat → List Value → xH → xO
  | 0 => fun _ _ _ => none
  | n + 1 => fun pc env P => match pc, env with
    | 0, [.ref a0, .int a1, .int a2] => b_X2_keepIfBetter_0 n (f_X2_keepIfBetter n) a0 a1 a2 P
    | 16, [.ref a0, .int a1, .int a2] => b_X2_keepIfBetter_16 n (f_X2_keepIfBetter n) a0 a1 a2 P
    | _, _ => none
set_option maxHeartbeats 2000000 in
set_option maxRecDepth 20000 in
theorem t_X2_keepIfBetter_0 {G : xG} {l : Launch} (hl : l.stackTraces = false) {n : Nat} {rec : Nat → List Value → xH → xO} (hrec : ∀ pc env P z, rec pc env P = some z → ∀ L st, lay_X2_keepIfBetter pc env = some (L, st) → ∀ Q : xR → xH → Prop, Q z.1 z.2 → Wp G l 8 mX2_keepIfBetter pc L st P Q) {a0 a1 a2} {P : xH} {z : xR × xH} (h : b_X2_keepIfBetter_0 n rec a0 a1 a2 P = some z) {Q : xR → xH → Prop} (hQ : Q z.1 z.2) : Wp G l 8 mX2_keepIfBetter 0 [some (.ref a0), some (.int a1), some (.int a2)] [] P Q := by
  unfold b_X2_keepIfBetter_0 at h
  refine x_iload_n dX2_keepIfBetter_0 rfl ?_
  refine x_aload_nr dX2_keepIfBetter_1 rfl ?_
  obtain ⟨v1, e2, h⟩ := Option.bind_eq_some_iff.mp h
  refine k_rI e2 dX2_keepIfBetter_2 f_X2_38 ?_
  refine x_icmp_lt 16 dX2_keepIfBetter_5 (by decide) (fun q6 => ?_) (fun q6 => ?_)
  · rw [if_pos q6] at h
    exact Wp.mask [true, true, true] (hrec 16 _ _ _ h _ _ rfl _ hQ)
  · rw [if_neg q6] at h
    refine x_iload_n dX2_keepIfBetter_8 rfl ?_
    refine x_aload_nr dX2_keepIfBetter_9 rfl ?_
    obtain ⟨v3, e4, h⟩ := Option.bind_eq_some_iff.mp h
    refine k_rI e4 dX2_keepIfBetter_10 f_X2_53 ?_
    refine x_icmp_ge 37 dX2_keepIfBetter_13 (by decide) (fun q5 => ?_) (fun q5 => ?_)
    · rw [if_pos q5] at h
      cases h
      exact x_ret rfl dX2_keepIfBetter_37 hQ
    · rw [if_neg q5] at h
      exact Wp.mask [true, true, true] (hrec 16 _ _ _ h _ _ rfl _ hQ)
set_option maxHeartbeats 2000000 in
set_option maxRecDepth 20000 in
theorem t_X2_keepIfBetter_16 {G : xG} {l : Launch} (hl : l.stackTraces = false) {n : Nat} {rec : Nat → List Value → xH → xO} (hrec : ∀ pc env P z, rec pc env P = some z → ∀ L st, lay_X2_keepIfBetter pc env = some (L, st) → ∀ Q : xR → xH → Prop, Q z.1 z.2 → Wp G l 8 mX2_keepIfBetter pc L st P Q) {a0 a1 a2} {P : xH} {z : xR × xH} (h : b_X2_keepIfBetter_16 n rec a0 a1 a2 P = some z) {Q : xR → xH → Prop} (hQ : Q z.1 z.2) : Wp G l 8 mX2_keepIfBetter 16 [some (.ref a0), some (.int a1), some (.int a2)] [] P Q := by
  unfold b_X2_keepIfBetter_16 at h
  refine x_aload_nr dX2_keepIfBetter_16 rfl ?_
  refine x_iload_n dX2_keepIfBetter_17 rfl ?_
  obtain ⟨P1, e2, h⟩ := Option.bind_eq_some_iff.mp h
  refine k_wI e2 dX2_keepIfBetter_18 f_X2_38 (Or.inl (by decide)) rfl ?_
  refine x_aload_nr dX2_keepIfBetter_21 rfl ?_
  refine x_iload_n dX2_keepIfBetter_22 rfl ?_
  obtain ⟨P3, e4, h⟩ := Option.bind_eq_some_iff.mp h
  refine k_wI e4 dX2_keepIfBetter_23 f_X2_53 (Or.inl (by decide)) rfl ?_
  refine x_aload_nr dX2_keepIfBetter_26 rfl ?_
  obtain ⟨v5, e6, h⟩ := Option.bind_eq_some_iff.mp h
  refine k_rA e6 dX2_keepIfBetter_27 f_X2_21 ?_
  refine x_aload_nr dX2_keepIfBetter_30 rfl ?_
  obtain ⟨v7, e8, h⟩ := Option.bind_eq_some_iff.mp h
  refine k_rA e8 dX2_keepIfBetter_31 f_X2_24 ?_
  obtain ⟨r10, e11, h⟩ := Option.bind_eq_some_iff.mp h
  replace h := xU_ok h
  obtain ⟨P9, rfl, h⟩ := h
  refine x_callSN (c_X10_copyRow hl e11) dX2_keepIfBetter_34 cw_X10_copyRow wn_X2_31 ws_X10_copyRow rfl (by omega) (by decide) rfl (Nat.le_of_ble_eq_true rfl) (fun i9 P9 hq9 => by cases hq9) (fun v9 P9 hq9 => ?_)
  cases hq9
  cases h
  exact x_ret rfl dX2_keepIfBetter_37 hQ
theorem s_X2_keepIfBetter {G : xG} {l : Launch} (hl : l.stackTraces = false) : ∀ n pc env P z, f_X2_keepIfBetter n pc env P = some z → ∀ L st, lay_X2_keepIfBetter pc env = some (L, st) → ∀ Q : xR → xH → Prop, Q z.1 z.2 → Wp G l 8 mX2_keepIfBetter pc L st P Q := by
  intro n
  induction n with
  | zero => intro pc env P z h; cases h
  | succ n ih =>
    intro pc env P z h L st hlay Q hQ
    unfold f_X2_keepIfBetter at h
    split at h
    · cases hlay
      exact t_X2_keepIfBetter_0 hl ih h hQ
    · cases hlay
      exact t_X2_keepIfBetter_16 hl ih h hQ
    · cases h
theorem c_X2_keepIfBetter {G : xG} {l : Launch} (hl : l.stackTraces = false) {n : Nat} {as : List Value} {P : xH} {z : xR × xH} (h : f_X2_keepIfBetter n 0 as P = some z) : Ct G l 8 mX2_keepIfBetter as P (fun r P1 => (r, P1) = z) := by
  cases n with
  | zero => cases h
  | succ n =>
    unfold f_X2_keepIfBetter at h
    split at h
    · exact Ct.of hl (by decide +kernel) wc_X2_keepIfBetter (Nat.le_of_ble_eq_true rfl) (t_X2_keepIfBetter_0 hl (s_X2_keepIfBetter hl _) h rfl)
    all_goals first | (cases h; done) | (rename_i q9 _; exact absurd q9 (by decide)) | (rename_i q9; exact absurd q9 (by decide)) | contradiction
/-! QuakeNet$Parting.areUnlike(II)Z -/
def b_X2_areUnlike_0 (n : Nat) (rec : Nat → List Value → xH → xO) (a0 : Int32) (a1 : Int32) (P : xH) : xO :=
  if a0 = ((-1)) then
    some (.inl (some (.int 0)), P)
  else
    if a1 = ((-1)) then
      some (.inl (some (.int 0)), P)
    else
      if a0 = a1 then
        some (.inl (some (.int 0)), P)
      else
        some (.inl (some (.int 1)), P)
def lay_X2_areUnlike : Nat → List Value → Option (xL × List Value)
  | 0, [a0, a1] => some ([some a0, some a1], [])
  | _, _ => none
def f_X2_areUnlike : Nat → Nat → List Value → xH → xO
  | 0 => fun _ _ _ => none
  | n + 1 => fun pc env P => match pc, env with
    | 0, [.int a0, .int a1] => b_X2_areUnlike_0 n (f_X2_areUnlike n) a0 a1 P
    | _, _ => none
set_option maxHeartbeats 2000000 in
set_option maxRecDepth 20000 in
theorem t_X2_areUnlike_0 {G : xG} {l : Launch} (hl : l.stackTraces = false) {n : Nat} {rec : Nat → List Value → xH → xO} (hrec : ∀ pc env P z, rec pc env P = some z → ∀ L st, lay_X2_areUnlike pc env = some (L, st) → ∀ Q : xR → xH → Prop, Q z.1 z.2 → Wp G l 3 mX2_areUnlike pc L st P Q) {a0 a1} {P : xH} {z : xR × xH} (h : b_X2_areUnlike_0 n rec a0 a1 P = some z) {Q : xR → xH → Prop} (hQ : Q z.1 z.2) : Wp G l 3 mX2_areUnlike 0 [some (.int a0), some (.int a1)] [] P Q := by
  unfold b_X2_areUnlike_0 at h
  refine x_iload_n dX2_areUnlike_0 rfl ?_
  refine x_iconst (-1) dX2_areUnlike_1 (by decide) ?_
  refine x_icmp_eq 19 dX2_areUnlike_2 (by decide) (fun q3 => ?_) (fun q3 => ?_)
  · rw [if_pos q3] at h
    refine x_iconst 0 dX2_areUnlike_19 (by decide) ?_
    cases h
    exact x_iret .boolean rfl rfl dX2_areUnlike_20 hQ
  · rw [if_neg q3] at h
    refine x_iload_n dX2_areUnlike_5 rfl ?_
    refine x_iconst (-1) dX2_areUnlike_6 (by decide) ?_
    refine x_icmp_eq 19 dX2_areUnlike_7 (by decide) (fun q2 => ?_) (fun q2 => ?_)
    · rw [if_pos q2] at h
      refine x_iconst 0 dX2_areUnlike_19 (by decide) ?_
      cases h
      exact x_iret .boolean rfl rfl dX2_areUnlike_20 hQ
    · rw [if_neg q2] at h
      refine x_iload_n dX2_areUnlike_10 rfl ?_
      refine x_iload_n dX2_areUnlike_11 rfl ?_
      refine x_icmp_eq 19 dX2_areUnlike_12 (by decide) (fun q1 => ?_) (fun q1 => ?_)
      · rw [if_pos q1] at h
        refine x_iconst 0 dX2_areUnlike_19 (by decide) ?_
        cases h
        exact x_iret .boolean rfl rfl dX2_areUnlike_20 hQ
      · rw [if_neg q1] at h
        refine x_iconst 1 dX2_areUnlike_15 (by decide) ?_
        refine x_goto 20 dX2_areUnlike_16 (by decide) ?_
        cases h
        exact x_iret .boolean rfl rfl dX2_areUnlike_20 hQ
theorem s_X2_areUnlike {G : xG} {l : Launch} (hl : l.stackTraces = false) : ∀ n pc env P z, f_X2_areUnlike n pc env P = some z → ∀ L st, lay_X2_areUnlike pc env = some (L, st) → ∀ Q : xR → xH → Prop, Q z.1 z.2 → Wp G l 3 mX2_areUnlike pc L st P Q := by
  intro n
  induction n with
  | zero => intro pc env P z h; cases h
  | succ n ih =>
    intro pc env P z h L st hlay Q hQ
    unfold f_X2_areUnlike at h
    split at h
    · cases hlay
      exact t_X2_areUnlike_0 hl ih h hQ
    · cases h
theorem c_X2_areUnlike {G : xG} {l : Launch} (hl : l.stackTraces = false) {n : Nat} {as : List Value} {P : xH} {z : xR × xH} (h : f_X2_areUnlike n 0 as P = some z) : Ct G l 3 mX2_areUnlike as P (fun r P1 => (r, P1) = z) := by
  cases n with
  | zero => cases h
  | succ n =>
    unfold f_X2_areUnlike at h
    split at h
    · exact Ct.of hl (by decide +kernel) wc_X2_areUnlike (Nat.le_of_ble_eq_true rfl) (t_X2_areUnlike_0 hl (s_X2_areUnlike hl _) h rfl)
    all_goals first | (cases h; done) | (rename_i q9 _; exact absurd q9 (by decide)) | (rename_i q9; exact absurd q9 (by decide)) | contradiction
/-! QuakeNet$Parting.priceOfTwo(II)I -/
def b_X2_priceOfTwo_0 (n : Nat) (rec : Nat → List Value → xH → xO) (a0 : Nat) (a1 : Int32) (a2 : Int32) (P : xH) : xO :=
  (rA P a0 2 0).bind fun v1 =>
  (aI P v1 a1).bind fun v3 =>
  (rA P a0 2 0).bind fun v5 =>
  (aI P v5 a2).bind fun v7 =>
  (f_X2_areUnlike n 0 [.int v3, .int v7] P).bind fun r10 => xI r10 fun v12 P9 =>
  if v12 = 0 then
    rec 24 [.ref a0, .int a1, .int a2, .int 0] P9
  else
    rec 24 [.ref a0, .int a1, .int a2, .int 20] P9
def b_X2_priceOfTwo_24 (n : Nat) (rec : Nat → List Value → xH → xO) (a0 : Nat) (a1 : Int32) (a2 : Int32) (s0 : Int32) (P : xH) : xO :=
  (rA P a0 2 1).bind fun v1 =>
  (aI P v1 a1).bind fun v3 =>
  (rA P a0 2 1).bind fun v5 =>
  (aI P v5 a2).bind fun v7 =>
  (f_X2_areUnlike n 0 [.int v3, .int v7] P).bind fun r10 => xI r10 fun v12 P9 =>
  if v12 = 0 then
    rec 64 [.ref a0, .int a1, .int a2, .int s0, .int s0, .int 0] P9
  else
    (rA P9 a0 2 1).bind fun v13 =>
    (aI P9 v13 a1).bind fun v15 =>
    (rA P9 a0 2 1).bind fun v17 =>
    (aI P9 v17 a2).bind fun v19 =>
    rec 64 [.ref a0, .int a1, .int a2, .int s0, .int s0, .int ((mAbs ((v15 - v19))))] P9
def b_X2_priceOfTwo_64 (n : Nat) (rec : Nat → List Value → xH → xO) (a0 : Nat) (a1 : Int32) (a2 : Int32) (a3 : Int32) (s0 : Int32) (s1 : Int32) (P : xH) : xO :=
  (rA P a0 2 2).bind fun v1 =>
  (aI P v1 a1).bind fun v3 =>
  (rA P a0 2 2).bind fun v5 =>
  (aI P v5 a2).bind fun v7 =>
  (f_X2_areUnlike n 0 [.int v3, .int v7] P).bind fun r10 => xI r10 fun v12 P9 =>
  if v12 = 0 then
    some (.inl (some (.int ((((s0 + s1)) + 0)))), P9)
  else
    some (.inl (some (.int ((((s0 + s1)) + 7)))), P9)
def lay_X2_priceOfTwo : Nat → List Value → Option (xL × List Value)
  | 0, [a0, a1, a2] => some ([some a0, some a1, some a2, none], [])
  | 24, [a0, a1, a2, s0] => some ([some a0, some a1, some a2, none], [s0])
  | 64, [a0, a1, a2, a3, s0, s1] => some ([some a0, some a1, some a2, some a3], [s1, s0])
  | _, _ => none
def f_X2_priceOfTwo : Nat → Nat → List Value → xH → xO
  | 0 => fun _ _ _ => none
  | n + 1 => fun pc env P => match pc, env with
    | 0, [.ref a0, .int a1, .int a2] => b_X2_priceOfTwo_0 n (f_X2_priceOfTwo n) a0 a1 a2 P
    | 24, [.ref a0, .int a1, .int a2, .int s0] => b_X2_priceOfTwo_24 n (f_X2_priceOfTwo n) a0 a1 a2 s0 P
    | 64, [.ref a0, .int a1, .int a2, .int a3, .int s0, .int s1] => b_X2_priceOfTwo_64 n (f_X2_priceOfTwo n) a0 a1 a2 a3 s0 s1 P
    | _, _ => none
set_option maxHeartbeats 2000000 in
set_option maxRecDepth 20000 in
theorem t_X2_priceOfTwo_0 {G : xG} {l : Launch} (hl : l.stackTraces = false) {n : Nat} {rec : Nat → List Value → xH → xO} (hrec : ∀ pc env P z, rec pc env P = some z → ∀ L st, lay_X2_priceOfTwo pc env = some (L, st) → ∀ Q : xR → xH → Prop, Q z.1 z.2 → Wp G l 7 mX2_priceOfTwo pc L st P Q) {a0 a1 a2} {P : xH} {z : xR × xH} (h : b_X2_priceOfTwo_0 n rec a0 a1 a2 P = some z) {Q : xR → xH → Prop} (hQ : Q z.1 z.2) : Wp G l 7 mX2_priceOfTwo 0 [some (.ref a0), some (.int a1), some (.int a2), none] [] P Q := by
  unfold b_X2_priceOfTwo_0 at h
  refine x_aload_nr dX2_priceOfTwo_0 rfl ?_
  obtain ⟨v1, e2, h⟩ := Option.bind_eq_some_iff.mp h
  refine k_rA e2 dX2_priceOfTwo_1 f_X2_11 ?_
  refine x_iload_n dX2_priceOfTwo_4 rfl ?_
  obtain ⟨v3, e4, h⟩ := Option.bind_eq_some_iff.mp h
  refine k_aI e4 dX2_priceOfTwo_5 ?_
  refine x_aload_nr dX2_priceOfTwo_6 rfl ?_
  obtain ⟨v5, e6, h⟩ := Option.bind_eq_some_iff.mp h
  refine k_rA e6 dX2_priceOfTwo_7 f_X2_11 ?_
  refine x_iload_n dX2_priceOfTwo_10 rfl ?_
  obtain ⟨v7, e8, h⟩ := Option.bind_eq_some_iff.mp h
  refine k_aI e8 dX2_priceOfTwo_11 ?_
  obtain ⟨r10, e11, h⟩ := Option.bind_eq_some_iff.mp h
  replace h := xI_ok h
  obtain ⟨v12, P9, rfl, h⟩ := h
  refine x_callS (c_X2_areUnlike hl e11) dX2_priceOfTwo_12 cw_X2_areUnlike wl_X2_59 ws_X2_areUnlike rfl (by omega) (by decide) rfl (Nat.le_of_ble_eq_true rfl) rfl (fun v9 P9 hq9 => ?_) (fun i9 P9 hq9 => by cases hq9)
  cases hq9
  refine x_if_eq 23 dX2_priceOfTwo_15 (by decide) (fun q13 => ?_) (fun q13 => ?_)
  · rw [if_pos q13] at h
    refine x_iconst 0 dX2_priceOfTwo_23 (by decide) ?_
    exact Wp.mask [true, true, true, false] (hrec 24 _ _ _ h _ _ rfl _ hQ)
  · rw [if_neg q13] at h
    refine x_bipush 20 dX2_priceOfTwo_18 (by decide) ?_
    refine x_goto 24 dX2_priceOfTwo_20 (by decide) ?_
    exact Wp.mask [true, true, true, false] (hrec 24 _ _ _ h _ _ rfl _ hQ)
set_option maxHeartbeats 2000000 in
set_option maxRecDepth 20000 in
theorem t_X2_priceOfTwo_24 {G : xG} {l : Launch} (hl : l.stackTraces = false) {n : Nat} {rec : Nat → List Value → xH → xO} (hrec : ∀ pc env P z, rec pc env P = some z → ∀ L st, lay_X2_priceOfTwo pc env = some (L, st) → ∀ Q : xR → xH → Prop, Q z.1 z.2 → Wp G l 7 mX2_priceOfTwo pc L st P Q) {a0 a1 a2 s0} {P : xH} {z : xR × xH} (h : b_X2_priceOfTwo_24 n rec a0 a1 a2 s0 P = some z) {Q : xR → xH → Prop} (hQ : Q z.1 z.2) : Wp G l 7 mX2_priceOfTwo 24 [some (.ref a0), some (.int a1), some (.int a2), none] [.int s0] P Q := by
  unfold b_X2_priceOfTwo_24 at h
  refine x_istore_n dX2_priceOfTwo_24 (Nat.le_of_ble_eq_true rfl) ?_
  refine x_iload_n dX2_priceOfTwo_25 rfl ?_
  refine x_aload_nr dX2_priceOfTwo_26 rfl ?_
  obtain ⟨v1, e2, h⟩ := Option.bind_eq_some_iff.mp h
  refine k_rA e2 dX2_priceOfTwo_27 f_X2_15 ?_
  refine x_iload_n dX2_priceOfTwo_30 rfl ?_
  obtain ⟨v3, e4, h⟩ := Option.bind_eq_some_iff.mp h
  refine k_aI e4 dX2_priceOfTwo_31 ?_
  refine x_aload_nr dX2_priceOfTwo_32 rfl ?_
  obtain ⟨v5, e6, h⟩ := Option.bind_eq_some_iff.mp h
  refine k_rA e6 dX2_priceOfTwo_33 f_X2_15 ?_
  refine x_iload_n dX2_priceOfTwo_36 rfl ?_
  obtain ⟨v7, e8, h⟩ := Option.bind_eq_some_iff.mp h
  refine k_aI e8 dX2_priceOfTwo_37 ?_
  obtain ⟨r10, e11, h⟩ := Option.bind_eq_some_iff.mp h
  replace h := xI_ok h
  obtain ⟨v12, P9, rfl, h⟩ := h
  refine x_callS (c_X2_areUnlike hl e11) dX2_priceOfTwo_38 cw_X2_areUnlike wl_X2_59 ws_X2_areUnlike rfl (by omega) (by decide) rfl (Nat.le_of_ble_eq_true rfl) rfl (fun v9 P9 hq9 => ?_) (fun i9 P9 hq9 => by cases hq9)
  cases hq9
  refine x_if_eq 63 dX2_priceOfTwo_41 (by decide) (fun q21 => ?_) (fun q21 => ?_)
  · rw [if_pos q21] at h
    refine x_iconst 0 dX2_priceOfTwo_63 (by decide) ?_
    exact Wp.mask [true, true, true, true] (hrec 64 _ _ _ h _ _ rfl _ hQ)
  · rw [if_neg q21] at h
    refine x_aload_nr dX2_priceOfTwo_44 rfl ?_
    obtain ⟨v13, e14, h⟩ := Option.bind_eq_some_iff.mp h
    refine k_rA e14 dX2_priceOfTwo_45 f_X2_15 ?_
    refine x_iload_n dX2_priceOfTwo_48 rfl ?_
    obtain ⟨v15, e16, h⟩ := Option.bind_eq_some_iff.mp h
    refine k_aI e16 dX2_priceOfTwo_49 ?_
    refine x_aload_nr dX2_priceOfTwo_50 rfl ?_
    obtain ⟨v17, e18, h⟩ := Option.bind_eq_some_iff.mp h
    refine k_rA e18 dX2_priceOfTwo_51 f_X2_15 ?_
    refine x_iload_n dX2_priceOfTwo_54 rfl ?_
    obtain ⟨v19, e20, h⟩ := Option.bind_eq_some_iff.mp h
    refine k_aI e20 dX2_priceOfTwo_55 ?_
    refine x_isub dX2_priceOfTwo_56 ?_
    refine x_mabs dX2_priceOfTwo_57 wl_X2_63 (Nat.le_of_ble_eq_true rfl) (by omega) ?_
    refine x_goto 64 dX2_priceOfTwo_60 (by decide) ?_
    exact Wp.mask [true, true, true, true] (hrec 64 _ _ _ h _ _ rfl _ hQ)
set_option maxHeartbeats 2000000 in
set_option maxRecDepth 20000 in
theorem t_X2_priceOfTwo_64 {G : xG} {l : Launch} (hl : l.stackTraces = false) {n : Nat} {rec : Nat → List Value → xH → xO} (hrec : ∀ pc env P z, rec pc env P = some z → ∀ L st, lay_X2_priceOfTwo pc env = some (L, st) → ∀ Q : xR → xH → Prop, Q z.1 z.2 → Wp G l 7 mX2_priceOfTwo pc L st P Q) {a0 a1 a2 a3 s0 s1} {P : xH} {z : xR × xH} (h : b_X2_priceOfTwo_64 n rec a0 a1 a2 a3 s0 s1 P = some z) {Q : xR → xH → Prop} (hQ : Q z.1 z.2) : Wp G l 7 mX2_priceOfTwo 64 [some (.ref a0), some (.int a1), some (.int a2), some (.int a3)] [.int s1, .int s0] P Q := by
  unfold b_X2_priceOfTwo_64 at h
  refine x_iadd dX2_priceOfTwo_64 ?_
  refine x_istore_n dX2_priceOfTwo_65 (Nat.le_of_ble_eq_true rfl) ?_
  refine x_iload_n dX2_priceOfTwo_66 rfl ?_
  refine x_aload_nr dX2_priceOfTwo_67 rfl ?_
  obtain ⟨v1, e2, h⟩ := Option.bind_eq_some_iff.mp h
  refine k_rA e2 dX2_priceOfTwo_68 f_X2_18 ?_
  refine x_iload_n dX2_priceOfTwo_71 rfl ?_
  obtain ⟨v3, e4, h⟩ := Option.bind_eq_some_iff.mp h
  refine k_aI e4 dX2_priceOfTwo_72 ?_
  refine x_aload_nr dX2_priceOfTwo_73 rfl ?_
  obtain ⟨v5, e6, h⟩ := Option.bind_eq_some_iff.mp h
  refine k_rA e6 dX2_priceOfTwo_74 f_X2_18 ?_
  refine x_iload_n dX2_priceOfTwo_77 rfl ?_
  obtain ⟨v7, e8, h⟩ := Option.bind_eq_some_iff.mp h
  refine k_aI e8 dX2_priceOfTwo_78 ?_
  obtain ⟨r10, e11, h⟩ := Option.bind_eq_some_iff.mp h
  replace h := xI_ok h
  obtain ⟨v12, P9, rfl, h⟩ := h
  refine x_callS (c_X2_areUnlike hl e11) dX2_priceOfTwo_79 cw_X2_areUnlike wl_X2_59 ws_X2_areUnlike rfl (by omega) (by decide) rfl (Nat.le_of_ble_eq_true rfl) rfl (fun v9 P9 hq9 => ?_) (fun i9 P9 hq9 => by cases hq9)
  cases hq9
  refine x_if_eq 90 dX2_priceOfTwo_82 (by decide) (fun q13 => ?_) (fun q13 => ?_)
  · rw [if_pos q13] at h
    refine x_iconst 0 dX2_priceOfTwo_90 (by decide) ?_
    refine x_iadd dX2_priceOfTwo_91 ?_
    cases h
    exact x_iret .int rfl rfl dX2_priceOfTwo_92 hQ
  · rw [if_neg q13] at h
    refine x_bipush 7 dX2_priceOfTwo_85 (by decide) ?_
    refine x_goto 91 dX2_priceOfTwo_87 (by decide) ?_
    refine x_iadd dX2_priceOfTwo_91 ?_
    cases h
    exact x_iret .int rfl rfl dX2_priceOfTwo_92 hQ
theorem s_X2_priceOfTwo {G : xG} {l : Launch} (hl : l.stackTraces = false) : ∀ n pc env P z, f_X2_priceOfTwo n pc env P = some z → ∀ L st, lay_X2_priceOfTwo pc env = some (L, st) → ∀ Q : xR → xH → Prop, Q z.1 z.2 → Wp G l 7 mX2_priceOfTwo pc L st P Q := by
  intro n
  induction n with
  | zero => intro pc env P z h; cases h
  | succ n ih =>
    intro pc env P z h L st hlay Q hQ
    unfold f_X2_priceOfTwo at h
    split at h
    · cases hlay
      exact t_X2_priceOfTwo_0 hl ih h hQ
    · cases hlay
      exact t_X2_priceOfTwo_24 hl ih h hQ
    · cases hlay
      exact t_X2_priceOfTwo_64 hl ih h hQ
    · cases h
theorem c_X2_priceOfTwo {G : xG} {l : Launch} (hl : l.stackTraces = false) {n : Nat} {as : List Value} {P : xH} {z : xR × xH} (h : f_X2_priceOfTwo n 0 as P = some z) : Ct G l 7 mX2_priceOfTwo as P (fun r P1 => (r, P1) = z) := by
  cases n with
  | zero => cases h
  | succ n =>
    unfold f_X2_priceOfTwo at h
    split at h
    · exact Ct.of hl (by decide +kernel) wc_X2_priceOfTwo (Nat.le_of_ble_eq_true rfl) (t_X2_priceOfTwo_0 hl (s_X2_priceOfTwo hl _) h rfl)
    all_goals first | (cases h; done) | (rename_i q9 _; exact absurd q9 (by decide)) | (rename_i q9; exact absurd q9 (by decide)) | contradiction
/-! QuakeNet$Parting.priceOfJoining(II)I -/
def b_X2_priceOfJoining_0 (n : Nat) (rec : Nat → List Value → xH → xO) (a0 : Nat) (a1 : Int32) (a2 : Int32) (P : xH) : xO :=
  rec 5 [.ref a0, .int a1, .int a2, .int 0, .int 0] P
def b_X2_priceOfJoining_5 (n : Nat) (rec : Nat → List Value → xH → xO) (a0 : Nat) (a1 : Int32) (a2 : Int32) (a3 : Int32) (a4 : Int32) (P : xH) : xO :=
  if a1 ≤ a4 then
    some (.inl (some (.int a3)), P)
  else
    (rA P a0 2 3).bind fun v1 =>
    (aI P v1 a4).bind fun v3 =>
    if ¬ v3 = a2 then
      rec 5 [.ref a0, .int a1, .int a2, .int a3, .int ((a4 + 1))] P
    else
      (kO P a0 2).bind fun _ =>
      (f_X2_priceOfTwo n 0 [.ref a0, .int a4, .int a1] P).bind fun r6 => xI r6 fun v8 P5 =>
      rec 5 [.ref a0, .int a1, .int a2, .int ((a3 + v8)), .int ((a4 + 1))] P5
def lay_X2_priceOfJoining : Nat → List Value → Option (xL × List Value)
  | 0, [a0, a1, a2] => some ([some a0, some a1, some a2, none, none], [])
  | 5, [a0, a1, a2, a3, a4] => some ([some a0, some a1, some a2, some a3, some a4], [])
  | _, _ => none
def f_X2_priceOfJoining : Nat → Nat → List Value → xH → xO
  | 0 => fun _ _ _ => none
  | n + 1 => fun pc env P => match pc, env with
    | 0, [.ref a0, .int a1, .int a2] => b_X2_priceOfJoining_0 n (f_X2_priceOfJoining n) a0 a1 a2 P
    | 5, [.ref a0, .int a1, .int a2, .int a3, .int a4] => b_X2_priceOfJoining_5 n (f_X2_priceOfJoining n) a0 a1 a2 a3 a4 P
    | _, _ => none
set_option maxHeartbeats 2000000 in
set_option maxRecDepth 20000 in
theorem t_X2_priceOfJoining_0 {G : xG} {l : Launch} (hl : l.stackTraces = false) {n : Nat} {rec : Nat → List Value → xH → xO} (hrec : ∀ pc env P z, rec pc env P = some z → ∀ L st, lay_X2_priceOfJoining pc env = some (L, st) → ∀ Q : xR → xH → Prop, Q z.1 z.2 → Wp G l 8 mX2_priceOfJoining pc L st P Q) {a0 a1 a2} {P : xH} {z : xR × xH} (h : b_X2_priceOfJoining_0 n rec a0 a1 a2 P = some z) {Q : xR → xH → Prop} (hQ : Q z.1 z.2) : Wp G l 8 mX2_priceOfJoining 0 [some (.ref a0), some (.int a1), some (.int a2), none, none] [] P Q := by
  unfold b_X2_priceOfJoining_0 at h
  refine x_iconst 0 dX2_priceOfJoining_0 (by decide) ?_
  refine x_istore_n dX2_priceOfJoining_1 (Nat.le_of_ble_eq_true rfl) ?_
  refine x_iconst 0 dX2_priceOfJoining_2 (by decide) ?_
  refine x_istore dX2_priceOfJoining_3 (Nat.le_of_ble_eq_true rfl) ?_
  exact Wp.mask [true, true, true, true, true] (hrec 5 _ _ _ h _ _ rfl _ hQ)
set_option maxHeartbeats 2000000 in
set_option maxRecDepth 20000 in
theorem t_X2_priceOfJoining_5 {G : xG} {l : Launch} (hl : l.stackTraces = false) {n : Nat} {rec : Nat → List Value → xH → xO} (hrec : ∀ pc env P z, rec pc env P = some z → ∀ L st, lay_X2_priceOfJoining pc env = some (L, st) → ∀ Q : xR → xH → Prop, Q z.1 z.2 → Wp G l 8 mX2_priceOfJoining pc L st P Q) {a0 a1 a2 a3 a4} {P : xH} {z : xR × xH} (h : b_X2_priceOfJoining_5 n rec a0 a1 a2 a3 a4 P = some z) {Q : xR → xH → Prop} (hQ : Q z.1 z.2) : Wp G l 8 mX2_priceOfJoining 5 [some (.ref a0), some (.int a1), some (.int a2), some (.int a3), some (.int a4)] [] P Q := by
  unfold b_X2_priceOfJoining_5 at h
  refine x_iload dX2_priceOfJoining_5 rfl ?_
  refine x_iload_n dX2_priceOfJoining_7 rfl ?_
  refine x_icmp_ge 38 dX2_priceOfJoining_8 (by decide) (fun q11 => ?_) (fun q11 => ?_)
  · rw [if_pos q11] at h
    refine x_iload_n dX2_priceOfJoining_38 rfl ?_
    cases h
    exact x_iret .int rfl rfl dX2_priceOfJoining_39 hQ
  · rw [if_neg q11] at h
    refine x_aload_nr dX2_priceOfJoining_11 rfl ?_
    obtain ⟨v1, e2, h⟩ := Option.bind_eq_some_iff.mp h
    refine k_rA e2 dX2_priceOfJoining_12 f_X2_21 ?_
    refine x_iload dX2_priceOfJoining_15 rfl ?_
    obtain ⟨v3, e4, h⟩ := Option.bind_eq_some_iff.mp h
    refine k_aI e4 dX2_priceOfJoining_17 ?_
    refine x_iload_n dX2_priceOfJoining_18 rfl ?_
    refine x_icmp_ne 32 dX2_priceOfJoining_19 (by decide) (fun q10 => ?_) (fun q10 => ?_)
    · rw [if_pos q10] at h
      refine x_iinc (a4 + 1) dX2_priceOfJoining_32 rfl (by rfl) ?_
      refine x_goto 5 dX2_priceOfJoining_35 (by decide) ?_
      exact Wp.mask [true, true, true, true, true] (hrec 5 _ _ _ h _ _ rfl _ hQ)
    · rw [if_neg (fun z9 => z9 q10)] at h
      refine x_iload_n dX2_priceOfJoining_22 rfl ?_
      refine x_aload_nr dX2_priceOfJoining_23 rfl ?_
      refine x_iload dX2_priceOfJoining_24 rfl ?_
      refine x_iload_n dX2_priceOfJoining_26 rfl ?_
      obtain ⟨_, e9, h⟩ := Option.bind_eq_some_iff.mp h
      obtain ⟨fse9, e9⟩ := kO_ok e9
      obtain ⟨r6, e7, h⟩ := Option.bind_eq_some_iff.mp h
      replace h := xI_ok h
      obtain ⟨v8, P5, rfl, h⟩ := h
      refine x_callV (c_X2_priceOfTwo hl e7) dX2_priceOfJoining_27 cw_X2_priceOfTwo wl_X2_56 wi_X2_priceOfTwo wse_X2_priceOfTwo rfl e9 (by decide) rfl (by omega) (by decide) rfl (Nat.le_of_ble_eq_true rfl) rfl (fun v9 P9 hq9 => ?_) (fun i9 P9 hq9 => by cases hq9)
      cases hq9
      refine x_iadd dX2_priceOfJoining_30 ?_
      refine x_istore_n dX2_priceOfJoining_31 (Nat.le_of_ble_eq_true rfl) ?_
      refine x_iinc (a4 + 1) dX2_priceOfJoining_32 rfl (by rfl) ?_
      refine x_goto 5 dX2_priceOfJoining_35 (by decide) ?_
      exact Wp.mask [true, true, true, true, true] (hrec 5 _ _ _ h _ _ rfl _ hQ)
theorem s_X2_priceOfJoining {G : xG} {l : Launch} (hl : l.stackTraces = false) : ∀ n pc env P z, f_X2_priceOfJoining n pc env P = some z → ∀ L st, lay_X2_priceOfJoining pc env = some (L, st) → ∀ Q : xR → xH → Prop, Q z.1 z.2 → Wp G l 8 mX2_priceOfJoining pc L st P Q := by
  intro n
  induction n with
  | zero => intro pc env P z h; cases h
  | succ n ih =>
    intro pc env P z h L st hlay Q hQ
    unfold f_X2_priceOfJoining at h
    split at h
    · cases hlay
      exact t_X2_priceOfJoining_0 hl ih h hQ
    · cases hlay
      exact t_X2_priceOfJoining_5 hl ih h hQ
    · cases h
theorem c_X2_priceOfJoining {G : xG} {l : Launch} (hl : l.stackTraces = false) {n : Nat} {as : List Value} {P : xH} {z : xR × xH} (h : f_X2_priceOfJoining n 0 as P = some z) : Ct G l 8 mX2_priceOfJoining as P (fun r P1 => (r, P1) = z) := by
  cases n with
  | zero => cases h
  | succ n =>
    unfold f_X2_priceOfJoining at h
    split at h
    · exact Ct.of hl (by decide +kernel) wc_X2_priceOfJoining (Nat.le_of_ble_eq_true rfl) (t_X2_priceOfJoining_0 hl (s_X2_priceOfJoining hl _) h rfl)
    all_goals first | (cases h; done) | (rename_i q9 _; exact absurd q9 (by decide)) | (rename_i q9; exact absurd q9 (by decide)) | contradiction
def mt_X2_part : Nat → xM
  | _ => mX2_part
/-! QuakeNet$Parting.part(III)V -/
def b_X2_part_0 (n : Nat) (cr : Nat → List Value → xH → xO) (rec : Nat → List Value → xH → xO) (a0 : Nat) (a1 : Int32) (a2 : Int32) (a3 : Int32) (P : xH) : xO :=
  (rI P a0 2 7).bind fun v1 =>
  if a3 ≤ v1 then
    (rI P a0 2 5).bind fun v3 =>
    if v3 ≤ a1 then
      rec 23 [.ref a0, .int a1, .int a2, .int a3] P
    else
      if a1 < 7 then
        rec 33 [.ref a0, .int a1, .int a2, .int a3, .int 0] P
      else
        rec 23 [.ref a0, .int a1, .int a2, .int a3] P
  else
    some (.inl none, P)
def b_X2_part_23 (n : Nat) (cr : Nat → List Value → xH → xO) (rec : Nat → List Value → xH → xO) (a0 : Nat) (a1 : Int32) (a2 : Int32) (a3 : Int32) (P : xH) : xO :=
  (kO P a0 2).bind fun _ =>
  (f_X2_keepIfBetter n 0 [.ref a0, .int a2, .int a3] P).bind fun r2 => xU r2 fun P1 =>
  some (.inl none, P1)
def b_X2_part_33 (n : Nat) (cr : Nat → List Value → xH → xO) (rec : Nat → List Value → xH → xO) (a0 : Nat) (a1 : Int32) (a2 : Int32) (a3 : Int32) (a4 : Int32) (P : xH) : xO :=
  if a2 ≤ a4 then
    (rA P a0 2 3).bind fun v1 =>
    (sI P v1 a1 a2).bind fun P3 =>
    (rI P3 a0 2 6).bind fun v5 =>
    (kO P3 a0 2).bind fun _ =>
    (cr 0 [.ref a0, .int ((a1 + 1)), .int ((a2 + 1)), .int ((a3 + v5))] P3).bind fun r8 => xU r8 fun P7 =>
    some (.inl none, P7)
  else
    (rA P a0 2 3).bind fun v11 =>
    (sI P v11 a1 a4).bind fun P13 =>
    (kO P13 a0 2).bind fun _ =>
    (f_X2_priceOfJoining n 0 [.ref a0, .int a1, .int a4] P13).bind fun r16 => xI r16 fun v18 P15 =>
    (kO P15 a0 2).bind fun _ =>
    (cr 0 [.ref a0, .int ((a1 + 1)), .int a2, .int ((a3 + v18))] P15).bind fun r21 => xU r21 fun P20 =>
    rec 33 [.ref a0, .int a1, .int a2, .int a3, .int ((a4 + 1))] P20
def lay_X2_part : Nat → List Value → Option (xL × List Value)
  | 0, [a0, a1, a2, a3] => some ([some a0, some a1, some a2, some a3, none], [])
  | 23, [a0, a1, a2, a3] => some ([some a0, some a1, some a2, some a3, none], [])
  | 33, [a0, a1, a2, a3, a4] => some ([some a0, some a1, some a2, some a3, some a4], [])
  | _, _ => none
def g_X2_part (cr : Nat → List Value → xH → xO) : Nat → Nat → List Value → xH → xO
  | 0 => fun _ _ _ => none
  | n + 1 => fun pc env P => match pc, env with
    | 0, [.ref a0, .int a1, .int a2, .int a3] => b_X2_part_0 n cr (g_X2_part cr n) a0 a1 a2 a3 P
    | 23, [.ref a0, .int a1, .int a2, .int a3] => b_X2_part_23 n cr (g_X2_part cr n) a0 a1 a2 a3 P
    | 33, [.ref a0, .int a1, .int a2, .int a3, .int a4] => b_X2_part_33 n cr (g_X2_part cr n) a0 a1 a2 a3 a4 P
    | _, _ => none
set_option maxHeartbeats 2000000 in
set_option maxRecDepth 20000 in
theorem t_X2_part_0 {G : xG} {l : Launch} (hl : l.stackTraces = false) {dp : Nat} {cr : Nat → List Value → xH → xO} (hself : ∀ t as P z, cr t as P = some z → Ct G l (dp + 9 - 1) (mt_X2_part t) as P (fun r P1 => (r, P1) = z)) {n : Nat} {rec : Nat → List Value → xH → xO} (hrec : ∀ pc env P z, rec pc env P = some z → ∀ L st, lay_X2_part pc env = some (L, st) → ∀ Q : xR → xH → Prop, Q z.1 z.2 → Wp G l (dp + 9) mX2_part pc L st P Q) {a0 a1 a2 a3} {P : xH} {z : xR × xH} (h : b_X2_part_0 n cr rec a0 a1 a2 a3 P = some z) {Q : xR → xH → Prop} (hQ : Q z.1 z.2) : Wp G l (dp + 9) mX2_part 0 [some (.ref a0), some (.int a1), some (.int a2), some (.int a3), none] [] P Q := by
  unfold b_X2_part_0 at h
  refine x_iload_n dX2_part_0 rfl ?_
  refine x_aload_nr dX2_part_1 rfl ?_
  obtain ⟨v1, e2, h⟩ := Option.bind_eq_some_iff.mp h
  refine k_rI e2 dX2_part_2 f_X2_38 ?_
  refine x_icmp_le 9 dX2_part_5 (by decide) (fun q7 => ?_) (fun q7 => ?_)
  · rw [if_pos q7] at h
    refine x_iload_n dX2_part_9 rfl ?_
    refine x_aload_nr dX2_part_10 rfl ?_
    obtain ⟨v3, e4, h⟩ := Option.bind_eq_some_iff.mp h
    refine k_rI e4 dX2_part_11 f_X2_35 ?_
    refine x_icmp_ge 23 dX2_part_14 (by decide) (fun q6 => ?_) (fun q6 => ?_)
    · rw [if_pos q6] at h
      exact Wp.mask [true, true, true, true, false] (hrec 23 _ _ _ h _ _ rfl _ hQ)
    · rw [if_neg q6] at h
      refine x_iload_n dX2_part_17 rfl ?_
      refine x_bipush 7 dX2_part_18 (by decide) ?_
      refine x_icmp_lt 30 dX2_part_20 (by decide) (fun q5 => ?_) (fun q5 => ?_)
      · rw [if_pos q5] at h
        refine x_iconst 0 dX2_part_30 (by decide) ?_
        refine x_istore dX2_part_31 (Nat.le_of_ble_eq_true rfl) ?_
        exact Wp.mask [true, true, true, true, true] (hrec 33 _ _ _ h _ _ rfl _ hQ)
      · rw [if_neg q5] at h
        exact Wp.mask [true, true, true, true, false] (hrec 23 _ _ _ h _ _ rfl _ hQ)
  · rw [if_neg q7] at h
    cases h
    exact x_ret rfl dX2_part_8 hQ
set_option maxHeartbeats 2000000 in
set_option maxRecDepth 20000 in
theorem t_X2_part_23 {G : xG} {l : Launch} (hl : l.stackTraces = false) {dp : Nat} {cr : Nat → List Value → xH → xO} (hself : ∀ t as P z, cr t as P = some z → Ct G l (dp + 9 - 1) (mt_X2_part t) as P (fun r P1 => (r, P1) = z)) {n : Nat} {rec : Nat → List Value → xH → xO} (hrec : ∀ pc env P z, rec pc env P = some z → ∀ L st, lay_X2_part pc env = some (L, st) → ∀ Q : xR → xH → Prop, Q z.1 z.2 → Wp G l (dp + 9) mX2_part pc L st P Q) {a0 a1 a2 a3} {P : xH} {z : xR × xH} (h : b_X2_part_23 n cr rec a0 a1 a2 a3 P = some z) {Q : xR → xH → Prop} (hQ : Q z.1 z.2) : Wp G l (dp + 9) mX2_part 23 [some (.ref a0), some (.int a1), some (.int a2), some (.int a3), none] [] P Q := by
  unfold b_X2_part_23 at h
  refine x_aload_nr dX2_part_23 rfl ?_
  refine x_iload_n dX2_part_24 rfl ?_
  refine x_iload_n dX2_part_25 rfl ?_
  obtain ⟨_, e4, h⟩ := Option.bind_eq_some_iff.mp h
  obtain ⟨fse4, e4⟩ := kO_ok e4
  obtain ⟨r2, e3, h⟩ := Option.bind_eq_some_iff.mp h
  replace h := xU_ok h
  obtain ⟨P1, rfl, h⟩ := h
  refine x_callV (c_X2_keepIfBetter hl e3) dX2_part_26 cw_X2_keepIfBetter wl_X2_45 wi_X2_keepIfBetter wse_X2_keepIfBetter rfl e4 (by decide) rfl (by omega) (by decide) rfl (Nat.le_of_ble_eq_true rfl) rfl (fun v9 P9 hq9 => ?_) (fun i9 P9 hq9 => by cases hq9)
  cases hq9
  cases h
  exact x_ret rfl dX2_part_29 hQ
set_option maxHeartbeats 2000000 in
set_option maxRecDepth 20000 in
theorem t_X2_part_33 {G : xG} {l : Launch} (hl : l.stackTraces = false) {dp : Nat} {cr : Nat → List Value → xH → xO} (hself : ∀ t as P z, cr t as P = some z → Ct G l (dp + 9 - 1) (mt_X2_part t) as P (fun r P1 => (r, P1) = z)) {n : Nat} {rec : Nat → List Value → xH → xO} (hrec : ∀ pc env P z, rec pc env P = some z → ∀ L st, lay_X2_part pc env = some (L, st) → ∀ Q : xR → xH → Prop, Q z.1 z.2 → Wp G l (dp + 9) mX2_part pc L st P Q) {a0 a1 a2 a3 a4} {P : xH} {z : xR × xH} (h : b_X2_part_33 n cr rec a0 a1 a2 a3 a4 P = some z) {Q : xR → xH → Prop} (hQ : Q z.1 z.2) : Wp G l (dp + 9) mX2_part 33 [some (.ref a0), some (.int a1), some (.int a2), some (.int a3), some (.int a4)] [] P Q := by
  unfold b_X2_part_33 at h
  refine x_iload dX2_part_33 rfl ?_
  refine x_iload_n dX2_part_35 rfl ?_
  refine x_icmp_ge 70 dX2_part_36 (by decide) (fun q24 => ?_) (fun q24 => ?_)
  · rw [if_pos q24] at h
    refine x_aload_nr dX2_part_70 rfl ?_
    obtain ⟨v1, e2, h⟩ := Option.bind_eq_some_iff.mp h
    refine k_rA e2 dX2_part_71 f_X2_21 ?_
    refine x_iload_n dX2_part_74 rfl ?_
    refine x_iload_n dX2_part_75 rfl ?_
    obtain ⟨P3, e4, h⟩ := Option.bind_eq_some_iff.mp h
    refine k_sI e4 dX2_part_76 ?_
    refine x_aload_nr dX2_part_77 rfl ?_
    refine x_iload_n dX2_part_78 rfl ?_
    refine x_iconst 1 dX2_part_79 (by decide) ?_
    refine x_iadd dX2_part_80 ?_
    refine x_iload_n dX2_part_81 rfl ?_
    refine x_iconst 1 dX2_part_82 (by decide) ?_
    refine x_iadd dX2_part_83 ?_
    refine x_iload_n dX2_part_84 rfl ?_
    refine x_aload_nr dX2_part_85 rfl ?_
    obtain ⟨v5, e6, h⟩ := Option.bind_eq_some_iff.mp h
    refine k_rI e6 dX2_part_86 f_X2_27 ?_
    refine x_iadd dX2_part_89 ?_
    obtain ⟨_, e10, h⟩ := Option.bind_eq_some_iff.mp h
    obtain ⟨fse10, e10⟩ := kO_ok e10
    obtain ⟨r8, e9, h⟩ := Option.bind_eq_some_iff.mp h
    replace h := xU_ok h
    obtain ⟨P7, rfl, h⟩ := h
    refine x_callV (hself 0 _ _ _ e9) dX2_part_90 cw_X2_part wl_X2_41 wi_X2_part wse_X2_part rfl e10 (by decide) rfl (by omega) (by decide) rfl (Nat.le_of_ble_eq_true rfl) rfl (fun v9 P9 hq9 => ?_) (fun i9 P9 hq9 => by cases hq9)
    cases hq9
    cases h
    exact x_ret rfl dX2_part_93 hQ
  · rw [if_neg q24] at h
    refine x_aload_nr dX2_part_39 rfl ?_
    obtain ⟨v11, e12, h⟩ := Option.bind_eq_some_iff.mp h
    refine k_rA e12 dX2_part_40 f_X2_21 ?_
    refine x_iload_n dX2_part_43 rfl ?_
    refine x_iload dX2_part_44 rfl ?_
    obtain ⟨P13, e14, h⟩ := Option.bind_eq_some_iff.mp h
    refine k_sI e14 dX2_part_46 ?_
    refine x_aload_nr dX2_part_47 rfl ?_
    refine x_iload_n dX2_part_48 rfl ?_
    refine x_iconst 1 dX2_part_49 (by decide) ?_
    refine x_iadd dX2_part_50 ?_
    refine x_iload_n dX2_part_51 rfl ?_
    refine x_iload_n dX2_part_52 rfl ?_
    refine x_aload_nr dX2_part_53 rfl ?_
    refine x_iload_n dX2_part_54 rfl ?_
    refine x_iload dX2_part_55 rfl ?_
    obtain ⟨_, e19, h⟩ := Option.bind_eq_some_iff.mp h
    obtain ⟨fse19, e19⟩ := kO_ok e19
    obtain ⟨r16, e17, h⟩ := Option.bind_eq_some_iff.mp h
    replace h := xI_ok h
    obtain ⟨v18, P15, rfl, h⟩ := h
    refine x_callV (c_X2_priceOfJoining hl e17) dX2_part_57 cw_X2_priceOfJoining wl_X2_49 wi_X2_priceOfJoining wse_X2_priceOfJoining rfl e19 (by decide) rfl (by omega) (by decide) rfl (Nat.le_of_ble_eq_true rfl) rfl (fun v9 P9 hq9 => ?_) (fun i9 P9 hq9 => by cases hq9)
    cases hq9
    refine x_iadd dX2_part_60 ?_
    obtain ⟨_, e23, h⟩ := Option.bind_eq_some_iff.mp h
    obtain ⟨fse23, e23⟩ := kO_ok e23
    obtain ⟨r21, e22, h⟩ := Option.bind_eq_some_iff.mp h
    replace h := xU_ok h
    obtain ⟨P20, rfl, h⟩ := h
    refine x_callV (hself 0 _ _ _ e22) dX2_part_61 cw_X2_part wl_X2_41 wi_X2_part wse_X2_part rfl e23 (by decide) rfl (by omega) (by decide) rfl (Nat.le_of_ble_eq_true rfl) rfl (fun v9 P9 hq9 => ?_) (fun i9 P9 hq9 => by cases hq9)
    cases hq9
    refine x_iinc (a4 + 1) dX2_part_64 rfl (by rfl) ?_
    refine x_goto 33 dX2_part_67 (by decide) ?_
    exact Wp.mask [true, true, true, true, true] (hrec 33 _ _ _ h _ _ rfl _ hQ)
theorem s_X2_part {G : xG} {l : Launch} (hl : l.stackTraces = false) {dp : Nat} {cr : Nat → List Value → xH → xO} (hself : ∀ t as P z, cr t as P = some z → Ct G l (dp + 9 - 1) (mt_X2_part t) as P (fun r P1 => (r, P1) = z)) : ∀ n pc env P z, g_X2_part cr n pc env P = some z → ∀ L st, lay_X2_part pc env = some (L, st) → ∀ Q : xR → xH → Prop, Q z.1 z.2 → Wp G l (dp + 9) mX2_part pc L st P Q := by
  intro n
  induction n with
  | zero => intro pc env P z h; cases h
  | succ n ih =>
    intro pc env P z h L st hlay Q hQ
    unfold g_X2_part at h
    split at h
    · cases hlay
      exact t_X2_part_0 hl hself ih h hQ
    · cases hlay
      exact t_X2_part_23 hl hself ih h hQ
    · cases hlay
      exact t_X2_part_33 hl hself ih h hQ
    · cases h
theorem cg_X2_part {G : xG} {l : Launch} (hl : l.stackTraces = false) {dp : Nat} {cr : Nat → List Value → xH → xO} (hself : ∀ t as P z, cr t as P = some z → Ct G l (dp + 9 - 1) (mt_X2_part t) as P (fun r P1 => (r, P1) = z)) {n : Nat} {as : List Value} {P : xH} {z : xR × xH} (h : g_X2_part cr n 0 as P = some z) : Ct G l (dp + 9) mX2_part as P (fun r P1 => (r, P1) = z) := by
  cases n with
  | zero => cases h
  | succ n =>
    unfold g_X2_part at h
    split at h
    · exact Ct.of hl (by decide +kernel) wc_X2_part (Nat.le_of_ble_eq_true rfl) (t_X2_part_0 hl hself (s_X2_part hl hself _) h rfl)
    all_goals first | (cases h; done) | (rename_i q9 _; exact absurd q9 (by decide)) | (rename_i q9; exact absurd q9 (by decide)) | contradiction
def F_X2_part (n : Nat) : Nat → Nat → List Value → xH → xO
  | 0 => fun _ _ _ => none
  | dp + 1 => fun t as P => match t with
    | 0 => g_X2_part (F_X2_part n dp) n 0 as P
    | _ => none
theorem cF_X2_part {G : xG} {l : Launch} (hl : l.stackTraces = false) (n : Nat) : ∀ dp t as P z, F_X2_part n dp t as P = some z → Ct G l (dp + 9) (mt_X2_part t) as P (fun r P1 => (r, P1) = z) := by
  intro dp
  induction dp with
  | zero => intro t as P z h; cases h
  | succ dp ih =>
    intro t as P z h
    unfold F_X2_part at h
    split at h
    · exact cg_X2_part (dp := dp + 1) hl (fun t as P z h9 => (show dp + 1 + 9 - 1 = dp + 9 by omega) ▸ ih t as P z h9) h
    · cases h
def f_X2_part (n pc : Nat) (as : List Value) (P : xH) : xO := if pc = 0 then F_X2_part n 30 0 as P else none
theorem c_X2_part {G : xG} {l : Launch} (hl : l.stackTraces = false) {n : Nat} {as : List Value} {P : xH} {z : xR × xH} (h : f_X2_part n 0 as P = some z) : Ct G l 39 mX2_part as P (fun r P1 => (r, P1) = z) := cF_X2_part hl n 30 0 as P z h
/-! QuakeNet$Parting.findBest()V -/
def b_X2_findBest_0 (n : Nat) (rec : Nat → List Value → xH → xO) (a0 : Nat) (P : xH) : xO :=
  (wV P a0 2 7 (.int 10000)).bind fun P1 =>
  (kO P1 a0 2).bind fun _ =>
  (f_X2_part n 0 [.ref a0, .int 0, .int 0, .int 0] P1).bind fun r4 => xU r4 fun P3 =>
  some (.inl none, P3)
def lay_X2_findBest : Nat → List Value → Option (xL × List Value)
  | 0, [a0] => some ([some a0], [])
  | _, _ => none
def f_X2_findBest : Nat → Nat → List Value → xH → xO
  | 0 => fun _ _ _ => none
  | n + 1 => fun pc env P => match pc, env with
    | 0, [.ref a0] => b_X2_findBest_0 n (f_X2_findBest n) a0 P
    | _, _ => none
set_option maxHeartbeats 2000000 in
set_option maxRecDepth 20000 in
theorem t_X2_findBest_0 {G : xG} {l : Launch} (hl : l.stackTraces = false) {n : Nat} {rec : Nat → List Value → xH → xO} (hrec : ∀ pc env P z, rec pc env P = some z → ∀ L st, lay_X2_findBest pc env = some (L, st) → ∀ Q : xR → xH → Prop, Q z.1 z.2 → Wp G l 40 mX2_findBest pc L st P Q) {a0} {P : xH} {z : xR × xH} (h : b_X2_findBest_0 n rec a0 P = some z) {Q : xR → xH → Prop} (hQ : Q z.1 z.2) : Wp G l 40 mX2_findBest 0 [some (.ref a0)] [] P Q := by
  unfold b_X2_findBest_0 at h
  refine x_aload_nr dX2_findBest_0 rfl ?_
  refine x_sipush 10000 dX2_findBest_1 (by decide) ?_
  obtain ⟨P1, e2, h⟩ := Option.bind_eq_some_iff.mp h
  refine k_wI e2 dX2_findBest_4 f_X2_38 (Or.inl (by decide)) rfl ?_
  refine x_aload_nr dX2_findBest_7 rfl ?_
  refine x_iconst 0 dX2_findBest_8 (by decide) ?_
  refine x_iconst 0 dX2_findBest_9 (by decide) ?_
  refine x_iconst 0 dX2_findBest_10 (by decide) ?_
  obtain ⟨_, e6, h⟩ := Option.bind_eq_some_iff.mp h
  obtain ⟨fse6, e6⟩ := kO_ok e6
  obtain ⟨r4, e5, h⟩ := Option.bind_eq_some_iff.mp h
  replace h := xU_ok h
  obtain ⟨P3, rfl, h⟩ := h
  refine x_callV (c_X2_part hl e5) dX2_findBest_11 cw_X2_part wl_X2_41 wi_X2_part wse_X2_part rfl e6 (by decide) rfl (by omega) (by decide) rfl (Nat.le_of_ble_eq_true rfl) rfl (fun v9 P9 hq9 => ?_) (fun i9 P9 hq9 => by cases hq9)
  cases hq9
  cases h
  exact x_ret rfl dX2_findBest_14 hQ
theorem s_X2_findBest {G : xG} {l : Launch} (hl : l.stackTraces = false) : ∀ n pc env P z, f_X2_findBest n pc env P = some z → ∀ L st, lay_X2_findBest pc env = some (L, st) → ∀ Q : xR → xH → Prop, Q z.1 z.2 → Wp G l 40 mX2_findBest pc L st P Q := by
  intro n
  induction n with
  | zero => intro pc env P z h; cases h
  | succ n ih =>
    intro pc env P z h L st hlay Q hQ
    unfold f_X2_findBest at h
    split at h
    · cases hlay
      exact t_X2_findBest_0 hl ih h hQ
    · cases h
theorem c_X2_findBest {G : xG} {l : Launch} (hl : l.stackTraces = false) {n : Nat} {as : List Value} {P : xH} {z : xR × xH} (h : f_X2_findBest n 0 as P = some z) : Ct G l 40 mX2_findBest as P (fun r P1 => (r, P1) = z) := by
  cases n with
  | zero => cases h
  | succ n =>
    unfold f_X2_findBest at h
    split at h
    · exact Ct.of hl (by decide +kernel) wc_X2_findBest (Nat.le_of_ble_eq_true rfl) (t_X2_findBest_0 hl (s_X2_findBest hl _) h rfl)
    all_goals first | (cases h; done) | (rename_i q9 _; exact absurd q9 (by decide)) | (rename_i q9; exact absurd q9 (by decide)) | contradiction
/-! QuakeNet.heaps(I)I -/
def b_X10_heaps_0 (n : Nat) (rec : Nat → List Value → xH → xO) (a0 : Nat) (a1 : Int32) (P : xH) : xO :=
  (f_X10_needWhat n 0 [.int a1, .int 2] P).bind fun r2 => xUt r2 fun P1 =>
  (rA P1 a0 10 1).bind fun v4 =>
  (rA P1 v4 7 6).bind fun v6 =>
  (kO P1 v6 2).bind fun _ =>
  (f_X2_findBest n 0 [.ref v6] P1).bind fun r9 => xU r9 fun P8 =>
  if ¬ a1 = 0 then
    (rA P8 a0 10 1).bind fun v12 =>
    (rA P8 v12 7 6).bind fun v14 =>
    (rI P8 v14 2 8).bind fun v16 =>
    some (.inl (some (.int v16)), P8)
  else
    (rA P8 a0 10 1).bind fun v18 =>
    (rA P8 v18 7 6).bind fun v20 =>
    (rI P8 v20 2 7).bind fun v22 =>
    some (.inl (some (.int v22)), P8)
def lay_X10_heaps : Nat → List Value → Option (xL × List Value)
  | 0, [a0, a1] => some ([some a0, some a1], [])
  | _, _ => none
def f_X10_heaps : Nat → Nat → List Value → xH → xO
  | 0 => fun _ _ _ => none
  | n + 1 => fun pc env P => match pc, env with
    | 0, [.ref a0, .int a1] => b_X10_heaps_0 n (f_X10_heaps n) a0 a1 P
    | _, _ => none
set_option maxHeartbeats 2000000 in
set_option maxRecDepth 20000 in
theorem t_X10_heaps_0 {G : xG} {l : Launch} (hl : l.stackTraces = false) {n : Nat} {rec : Nat → List Value → xH → xO} (hrec : ∀ pc env P z, rec pc env P = some z → ∀ L st, lay_X10_heaps pc env = some (L, st) → ∀ Q : xR → xH → Prop, Q z.1 z.2 → Wp G l 41 mX10_heaps pc L st P Q) {a0 a1} {P : xH} {z : xR × xH} (h : b_X10_heaps_0 n rec a0 a1 P = some z) {Q : xR → xH → Prop} (hQ : Q z.1 z.2) : Wp G l 41 mX10_heaps 0 [some (.ref a0), some (.int a1)] [] P Q := by
  unfold b_X10_heaps_0 at h
  refine x_iload_n dX10_heaps_0 rfl ?_
  refine x_iconst 2 dX10_heaps_1 (by decide) ?_
  obtain ⟨r2, e3, h⟩ := Option.bind_eq_some_iff.mp h
  replace h := xUt_ok h
  rcases h with ⟨P1, hr9, h⟩ | ⟨i8, P8, rfl, rfl⟩
  · subst hr9
    refine x_callS (c_X10_needWhat hl e3) dX10_heaps_2 cw_X10_needWhat wl_X10_154 ws_X10_needWhat rfl (by omega) (by decide) rfl (Nat.le_of_ble_eq_true rfl) rfl (fun v9 P9 hq9 => ?_) (fun i9 P9 hq9 => by cases hq9)
    cases hq9
    refine x_aload_nr dX10_heaps_5 rfl ?_
    obtain ⟨v4, e5, h⟩ := Option.bind_eq_some_iff.mp h
    refine k_rA e5 dX10_heaps_6 f_X10_19 ?_
    obtain ⟨v6, e7, h⟩ := Option.bind_eq_some_iff.mp h
    refine k_rA e7 dX10_heaps_9 f_X10_232 ?_
    obtain ⟨_, e11, h⟩ := Option.bind_eq_some_iff.mp h
    obtain ⟨fse11, e11⟩ := kO_ok e11
    obtain ⟨r9, e10, h⟩ := Option.bind_eq_some_iff.mp h
    replace h := xU_ok h
    obtain ⟨P8, rfl, h⟩ := h
    refine x_callV (c_X2_findBest hl e10) dX10_heaps_12 cw_X2_findBest wl_X10_244 wi_X2_findBest wse_X2_findBest rfl e11 (by decide) rfl (by omega) (by decide) rfl (Nat.le_of_ble_eq_true rfl) rfl (fun v9 P9 hq9 => ?_) (fun i9 P9 hq9 => by cases hq9)
    cases hq9
    refine x_iload_n dX10_heaps_15 rfl ?_
    refine x_if_ne 32 dX10_heaps_16 (by decide) (fun q24 => ?_) (fun q24 => ?_)
    · rw [if_pos q24] at h
      refine x_aload_nr dX10_heaps_32 rfl ?_
      obtain ⟨v12, e13, h⟩ := Option.bind_eq_some_iff.mp h
      refine k_rA e13 dX10_heaps_33 f_X10_19 ?_
      obtain ⟨v14, e15, h⟩ := Option.bind_eq_some_iff.mp h
      refine k_rA e15 dX10_heaps_36 f_X10_232 ?_
      obtain ⟨v16, e17, h⟩ := Option.bind_eq_some_iff.mp h
      refine k_rI e17 dX10_heaps_39 f_X10_250 ?_
      cases h
      exact x_iret .int rfl rfl dX10_heaps_42 hQ
    · rw [if_neg (fun z9 => z9 q24)] at h
      refine x_aload_nr dX10_heaps_19 rfl ?_
      obtain ⟨v18, e19, h⟩ := Option.bind_eq_some_iff.mp h
      refine k_rA e19 dX10_heaps_20 f_X10_19 ?_
      obtain ⟨v20, e21, h⟩ := Option.bind_eq_some_iff.mp h
      refine k_rA e21 dX10_heaps_23 f_X10_232 ?_
      obtain ⟨v22, e23, h⟩ := Option.bind_eq_some_iff.mp h
      refine k_rI e23 dX10_heaps_26 f_X10_247 ?_
      refine x_goto 42 dX10_heaps_29 (by decide) ?_
      cases h
      exact x_iret .int rfl rfl dX10_heaps_42 hQ
  · exact x_callS (c_X10_needWhat hl e3) dX10_heaps_2 cw_X10_needWhat wl_X10_154 ws_X10_needWhat rfl (by omega) (by decide) rfl (Nat.le_of_ble_eq_true rfl) rfl (fun v9 P9 hq9 => by cases hq9) (fun i9 P9 hq9 => by cases hq9; exact hQ)
theorem s_X10_heaps {G : xG} {l : Launch} (hl : l.stackTraces = false) : ∀ n pc env P z, f_X10_heaps n pc env P = some z → ∀ L st, lay_X10_heaps pc env = some (L, st) → ∀ Q : xR → xH → Prop, Q z.1 z.2 → Wp G l 41 mX10_heaps pc L st P Q := by
  intro n
  induction n with
  | zero => intro pc env P z h; cases h
  | succ n ih =>
    intro pc env P z h L st hlay Q hQ
    unfold f_X10_heaps at h
    split at h
    · cases hlay
      exact t_X10_heaps_0 hl ih h hQ
    · cases h
theorem c_X10_heaps {G : xG} {l : Launch} (hl : l.stackTraces = false) {n : Nat} {as : List Value} {P : xH} {z : xR × xH} (h : f_X10_heaps n 0 as P = some z) : Ct G l 41 mX10_heaps as P (fun r P1 => (r, P1) = z) := by
  cases n with
  | zero => cases h
  | succ n =>
    unfold f_X10_heaps at h
    split at h
    · exact Ct.of hl (by decide +kernel) wc_X10_heaps (Nat.le_of_ble_eq_true rfl) (t_X10_heaps_0 hl (s_X10_heaps hl _) h rfl)
    all_goals first | (cases h; done) | (rename_i q9 _; exact absurd q9 (by decide)) | (rename_i q9; exact absurd q9 (by decide)) | contradiction
/-! QuakeNet.heap(I)I -/
def b_X10_heap_0 (n : Nat) (rec : Nat → List Value → xH → xO) (a0 : Nat) (a1 : Int32) (P : xH) : xO :=
  (rA P a0 10 1).bind fun v1 =>
  (rA P v1 7 6).bind fun v3 =>
  (rI P v3 2 5).bind fun v5 =>
  (f_X10_needIndex n 0 [.int a1, .int v5] P).bind fun r8 => xUt r8 fun P7 =>
  (rA P7 a0 10 1).bind fun v10 =>
  (rA P7 v10 7 6).bind fun v12 =>
  (kO P7 v12 2).bind fun _ =>
  (f_X2_findBest n 0 [.ref v12] P7).bind fun r15 => xU r15 fun P14 =>
  (rA P14 a0 10 1).bind fun v18 =>
  (rA P14 v18 7 6).bind fun v20 =>
  (rA P14 v20 2 4).bind fun v22 =>
  (aI P14 v22 a1).bind fun v24 =>
  some (.inl (some (.int v24)), P14)
def lay_X10_heap : Nat → List Value → Option (xL × List Value)
  | 0, [a0, a1] => some ([some a0, some a1], [])
  | _, _ => none
def f_X10_heap : Nat → Nat → List Value → xH → xO
  | 0 => fun _ _ _ => none
  | n + 1 => fun pc env P => match pc, env with
    | 0, [.ref a0, .int a1] => b_X10_heap_0 n (f_X10_heap n) a0 a1 P
    | _, _ => none
set_option maxHeartbeats 2000000 in
set_option maxRecDepth 20000 in
theorem t_X10_heap_0 {G : xG} {l : Launch} (hl : l.stackTraces = false) {n : Nat} {rec : Nat → List Value → xH → xO} (hrec : ∀ pc env P z, rec pc env P = some z → ∀ L st, lay_X10_heap pc env = some (L, st) → ∀ Q : xR → xH → Prop, Q z.1 z.2 → Wp G l 41 mX10_heap pc L st P Q) {a0 a1} {P : xH} {z : xR × xH} (h : b_X10_heap_0 n rec a0 a1 P = some z) {Q : xR → xH → Prop} (hQ : Q z.1 z.2) : Wp G l 41 mX10_heap 0 [some (.ref a0), some (.int a1)] [] P Q := by
  unfold b_X10_heap_0 at h
  refine x_iload_n dX10_heap_0 rfl ?_
  refine x_aload_nr dX10_heap_1 rfl ?_
  obtain ⟨v1, e2, h⟩ := Option.bind_eq_some_iff.mp h
  refine k_rA e2 dX10_heap_2 f_X10_19 ?_
  obtain ⟨v3, e4, h⟩ := Option.bind_eq_some_iff.mp h
  refine k_rA e4 dX10_heap_5 f_X10_232 ?_
  obtain ⟨v5, e6, h⟩ := Option.bind_eq_some_iff.mp h
  refine k_rI e6 dX10_heap_8 f_X10_253 ?_
  obtain ⟨r8, e9, h⟩ := Option.bind_eq_some_iff.mp h
  replace h := xUt_ok h
  rcases h with ⟨P7, hr9, h⟩ | ⟨i8, P8, rfl, rfl⟩
  · subst hr9
    refine x_callS (c_X10_needIndex hl e9) dX10_heap_11 cw_X10_needIndex wl_X10_87 ws_X10_needIndex rfl (by omega) (by decide) rfl (Nat.le_of_ble_eq_true rfl) rfl (fun v9 P9 hq9 => ?_) (fun i9 P9 hq9 => by cases hq9)
    cases hq9
    refine x_aload_nr dX10_heap_14 rfl ?_
    obtain ⟨v10, e11, h⟩ := Option.bind_eq_some_iff.mp h
    refine k_rA e11 dX10_heap_15 f_X10_19 ?_
    obtain ⟨v12, e13, h⟩ := Option.bind_eq_some_iff.mp h
    refine k_rA e13 dX10_heap_18 f_X10_232 ?_
    obtain ⟨_, e17, h⟩ := Option.bind_eq_some_iff.mp h
    obtain ⟨fse17, e17⟩ := kO_ok e17
    obtain ⟨r15, e16, h⟩ := Option.bind_eq_some_iff.mp h
    replace h := xU_ok h
    obtain ⟨P14, rfl, h⟩ := h
    refine x_callV (c_X2_findBest hl e16) dX10_heap_21 cw_X2_findBest wl_X10_244 wi_X2_findBest wse_X2_findBest rfl e17 (by decide) rfl (by omega) (by decide) rfl (Nat.le_of_ble_eq_true rfl) rfl (fun v9 P9 hq9 => ?_) (fun i9 P9 hq9 => by cases hq9)
    cases hq9
    refine x_aload_nr dX10_heap_24 rfl ?_
    obtain ⟨v18, e19, h⟩ := Option.bind_eq_some_iff.mp h
    refine k_rA e19 dX10_heap_25 f_X10_19 ?_
    obtain ⟨v20, e21, h⟩ := Option.bind_eq_some_iff.mp h
    refine k_rA e21 dX10_heap_28 f_X10_232 ?_
    obtain ⟨v22, e23, h⟩ := Option.bind_eq_some_iff.mp h
    refine k_rA e23 dX10_heap_31 f_X10_254 ?_
    refine x_iload_n dX10_heap_34 rfl ?_
    obtain ⟨v24, e25, h⟩ := Option.bind_eq_some_iff.mp h
    refine k_aI e25 dX10_heap_35 ?_
    cases h
    exact x_iret .int rfl rfl dX10_heap_36 hQ
  · exact x_callS (c_X10_needIndex hl e9) dX10_heap_11 cw_X10_needIndex wl_X10_87 ws_X10_needIndex rfl (by omega) (by decide) rfl (Nat.le_of_ble_eq_true rfl) rfl (fun v9 P9 hq9 => by cases hq9) (fun i9 P9 hq9 => by cases hq9; exact hQ)
theorem s_X10_heap {G : xG} {l : Launch} (hl : l.stackTraces = false) : ∀ n pc env P z, f_X10_heap n pc env P = some z → ∀ L st, lay_X10_heap pc env = some (L, st) → ∀ Q : xR → xH → Prop, Q z.1 z.2 → Wp G l 41 mX10_heap pc L st P Q := by
  intro n
  induction n with
  | zero => intro pc env P z h; cases h
  | succ n ih =>
    intro pc env P z h L st hlay Q hQ
    unfold f_X10_heap at h
    split at h
    · cases hlay
      exact t_X10_heap_0 hl ih h hQ
    · cases h
theorem c_X10_heap {G : xG} {l : Launch} (hl : l.stackTraces = false) {n : Nat} {as : List Value} {P : xH} {z : xR × xH} (h : f_X10_heap n 0 as P = some z) : Ct G l 41 mX10_heap as P (fun r P1 => (r, P1) = z) := by
  cases n with
  | zero => cases h
  | succ n =>
    unfold f_X10_heap at h
    split at h
    · exact Ct.of hl (by decide +kernel) wc_X10_heap (Nat.le_of_ble_eq_true rfl) (t_X10_heap_0 hl (s_X10_heap hl _) h rfl)
    all_goals first | (cases h; done) | (rename_i q9 _; exact absurd q9 (by decide)) | (rename_i q9; exact absurd q9 (by decide)) | contradiction
/-! QuakeNet$Help.addStones(IIIIII)I -/
def b_X0_addStones_0 (n : Nat) (rec : Nat → List Value → xH → xO) (a0 : Nat) (a1 : Int32) (a2 : Int32) (a3 : Int32) (a4 : Int32) (a5 : Int32) (a6 : Int32) (P : xH) : xO :=
  (rI P a0 0 5).bind fun v1 =>
  if v1 < 5 then
    (rA P a0 0 0).bind fun v3 =>
    (aA P v3 0).bind fun v5 =>
    (sI P v5 v1 a1).bind fun P7 =>
    (rA P7 a0 0 0).bind fun v9 =>
    (aA P7 v9 1).bind fun v11 =>
    (sI P7 v11 v1 a2).bind fun P13 =>
    (rA P13 a0 0 0).bind fun v15 =>
    (aA P13 v15 2).bind fun v17 =>
    (sI P13 v17 v1 a3).bind fun P19 =>
    (rA P19 a0 0 0).bind fun v21 =>
    (aA P19 v21 3).bind fun v23 =>
    (sI P19 v23 v1 a4).bind fun P25 =>
    (rA P25 a0 0 0).bind fun v27 =>
    (aA P25 v27 4).bind fun v29 =>
    (sI P25 v29 v1 a5).bind fun P31 =>
    (rA P31 a0 0 0).bind fun v33 =>
    (aA P31 v33 5).bind fun v35 =>
    (sI P31 v35 v1 a6).bind fun P37 =>
    (rI P37 a0 0 5).bind fun v39 =>
    (wV P37 a0 0 5 (.int ((v39 + 1)))).bind fun P41 =>
    some (.inl (some (.int v1)), P41)
  else
    some (.inl (some (.int ((-1)))), P)
def lay_X0_addStones : Nat → List Value → Option (xL × List Value)
  | 0, [a0, a1, a2, a3, a4, a5, a6] => some ([some a0, some a1, some a2, some a3, some a4, some a5, some a6, none], [])
  | _, _ => none
def f_X0_addStones : Nat → Nat → List Value → xH → xO
  | 0 => fun _ _ _ => none
  | n + 1 => fun pc env P => match pc, env with
    | 0, [.ref a0, .int a1, .int a2, .int a3, .int a4, .int a5, .int a6] => b_X0_addStones_0 n (f_X0_addStones n) a0 a1 a2 a3 a4 a5 a6 P
    | _, _ => none
set_option maxHeartbeats 2000000 in
set_option maxRecDepth 20000 in
theorem t_X0_addStones_0 {G : xG} {l : Launch} (hl : l.stackTraces = false) {n : Nat} {rec : Nat → List Value → xH → xO} (hrec : ∀ pc env P z, rec pc env P = some z → ∀ L st, lay_X0_addStones pc env = some (L, st) → ∀ Q : xR → xH → Prop, Q z.1 z.2 → Wp G l 3 mX0_addStones pc L st P Q) {a0 a1 a2 a3 a4 a5 a6} {P : xH} {z : xR × xH} (h : b_X0_addStones_0 n rec a0 a1 a2 a3 a4 a5 a6 P = some z) {Q : xR → xH → Prop} (hQ : Q z.1 z.2) : Wp G l 3 mX0_addStones 0 [some (.ref a0), some (.int a1), some (.int a2), some (.int a3), some (.int a4), some (.int a5), some (.int a6), none] [] P Q := by
  unfold b_X0_addStones_0 at h
  refine x_aload_nr dX0_addStones_0 rfl ?_
  obtain ⟨v1, e2, h⟩ := Option.bind_eq_some_iff.mp h
  refine k_rI e2 dX0_addStones_1 f_X0_37 ?_
  refine x_istore dX0_addStones_4 (Nat.le_of_ble_eq_true rfl) ?_
  refine x_iload dX0_addStones_6 rfl ?_
  refine x_iconst 5 dX0_addStones_8 (by decide) ?_
  refine x_icmp_lt 14 dX0_addStones_9 (by decide) (fun q43 => ?_) (fun q43 => ?_)
  · rw [if_pos q43] at h
    refine x_aload_nr dX0_addStones_14 rfl ?_
    obtain ⟨v3, e4, h⟩ := Option.bind_eq_some_iff.mp h
    refine k_rA e4 dX0_addStones_15 f_X0_13 ?_
    refine x_iconst 0 dX0_addStones_18 (by decide) ?_
    obtain ⟨v5, e6, h⟩ := Option.bind_eq_some_iff.mp h
    refine k_aA e6 dX0_addStones_19 ?_
    refine x_iload dX0_addStones_20 rfl ?_
    refine x_iload_n dX0_addStones_22 rfl ?_
    obtain ⟨P7, e8, h⟩ := Option.bind_eq_some_iff.mp h
    refine k_sI e8 dX0_addStones_23 ?_
    refine x_aload_nr dX0_addStones_24 rfl ?_
    obtain ⟨v9, e10, h⟩ := Option.bind_eq_some_iff.mp h
    refine k_rA e10 dX0_addStones_25 f_X0_13 ?_
    refine x_iconst 1 dX0_addStones_28 (by decide) ?_
    obtain ⟨v11, e12, h⟩ := Option.bind_eq_some_iff.mp h
    refine k_aA e12 dX0_addStones_29 ?_
    refine x_iload dX0_addStones_30 rfl ?_
    refine x_iload_n dX0_addStones_32 rfl ?_
    obtain ⟨P13, e14, h⟩ := Option.bind_eq_some_iff.mp h
    refine k_sI e14 dX0_addStones_33 ?_
    refine x_aload_nr dX0_addStones_34 rfl ?_
    obtain ⟨v15, e16, h⟩ := Option.bind_eq_some_iff.mp h
    refine k_rA e16 dX0_addStones_35 f_X0_13 ?_
    refine x_iconst 2 dX0_addStones_38 (by decide) ?_
    obtain ⟨v17, e18, h⟩ := Option.bind_eq_some_iff.mp h
    refine k_aA e18 dX0_addStones_39 ?_
    refine x_iload dX0_addStones_40 rfl ?_
    refine x_iload_n dX0_addStones_42 rfl ?_
    obtain ⟨P19, e20, h⟩ := Option.bind_eq_some_iff.mp h
    refine k_sI e20 dX0_addStones_43 ?_
    refine x_aload_nr dX0_addStones_44 rfl ?_
    obtain ⟨v21, e22, h⟩ := Option.bind_eq_some_iff.mp h
    refine k_rA e22 dX0_addStones_45 f_X0_13 ?_
    refine x_iconst 3 dX0_addStones_48 (by decide) ?_
    obtain ⟨v23, e24, h⟩ := Option.bind_eq_some_iff.mp h
    refine k_aA e24 dX0_addStones_49 ?_
    refine x_iload dX0_addStones_50 rfl ?_
    refine x_iload dX0_addStones_52 rfl ?_
    obtain ⟨P25, e26, h⟩ := Option.bind_eq_some_iff.mp h
    refine k_sI e26 dX0_addStones_54 ?_
    refine x_aload_nr dX0_addStones_55 rfl ?_
    obtain ⟨v27, e28, h⟩ := Option.bind_eq_some_iff.mp h
    refine k_rA e28 dX0_addStones_56 f_X0_13 ?_
    refine x_iconst 4 dX0_addStones_59 (by decide) ?_
    obtain ⟨v29, e30, h⟩ := Option.bind_eq_some_iff.mp h
    refine k_aA e30 dX0_addStones_60 ?_
    refine x_iload dX0_addStones_61 rfl ?_
    refine x_iload dX0_addStones_63 rfl ?_
    obtain ⟨P31, e32, h⟩ := Option.bind_eq_some_iff.mp h
    refine k_sI e32 dX0_addStones_65 ?_
    refine x_aload_nr dX0_addStones_66 rfl ?_
    obtain ⟨v33, e34, h⟩ := Option.bind_eq_some_iff.mp h
    refine k_rA e34 dX0_addStones_67 f_X0_13 ?_
    refine x_iconst 5 dX0_addStones_70 (by decide) ?_
    obtain ⟨v35, e36, h⟩ := Option.bind_eq_some_iff.mp h
    refine k_aA e36 dX0_addStones_71 ?_
    refine x_iload dX0_addStones_72 rfl ?_
    refine x_iload dX0_addStones_74 rfl ?_
    obtain ⟨P37, e38, h⟩ := Option.bind_eq_some_iff.mp h
    refine k_sI e38 dX0_addStones_76 ?_
    refine x_aload_nr dX0_addStones_77 rfl ?_
    refine x_dup dX0_addStones_78 rfl ?_
    obtain ⟨v39, e40, h⟩ := Option.bind_eq_some_iff.mp h
    refine k_rI e40 dX0_addStones_79 f_X0_37 ?_
    refine x_iconst 1 dX0_addStones_82 (by decide) ?_
    refine x_iadd dX0_addStones_83 ?_
    obtain ⟨P41, e42, h⟩ := Option.bind_eq_some_iff.mp h
    refine k_wI e42 dX0_addStones_84 f_X0_37 (Or.inl (by decide)) rfl ?_
    refine x_iload dX0_addStones_87 rfl ?_
    cases h
    exact x_iret .int rfl rfl dX0_addStones_89 hQ
  · rw [if_neg q43] at h
    refine x_iconst (-1) dX0_addStones_12 (by decide) ?_
    cases h
    exact x_iret .int rfl rfl dX0_addStones_13 hQ
theorem s_X0_addStones {G : xG} {l : Launch} (hl : l.stackTraces = false) : ∀ n pc env P z, f_X0_addStones n pc env P = some z → ∀ L st, lay_X0_addStones pc env = some (L, st) → ∀ Q : xR → xH → Prop, Q z.1 z.2 → Wp G l 3 mX0_addStones pc L st P Q := by
  intro n
  induction n with
  | zero => intro pc env P z h; cases h
  | succ n ih =>
    intro pc env P z h L st hlay Q hQ
    unfold f_X0_addStones at h
    split at h
    · cases hlay
      exact t_X0_addStones_0 hl ih h hQ
    · cases h
theorem c_X0_addStones {G : xG} {l : Launch} (hl : l.stackTraces = false) {n : Nat} {as : List Value} {P : xH} {z : xR × xH} (h : f_X0_addStones n 0 as P = some z) : Ct G l 3 mX0_addStones as P (fun r P1 => (r, P1) = z) := by
  cases n with
  | zero => cases h
  | succ n =>
    unfold f_X0_addStones at h
    split at h
    · exact Ct.of hl (by decide +kernel) wc_X0_addStones (Nat.le_of_ble_eq_true rfl) (t_X0_addStones_0 hl (s_X0_addStones hl _) h rfl)
    all_goals first | (cases h; done) | (rename_i q9 _; exact absurd q9 (by decide)) | (rename_i q9; exact absurd q9 (by decide)) | contradiction
/-! QuakeNet.stones(IIIII)I -/
def b_X10_stones_0 (n : Nat) (rec : Nat → List Value → xH → xO) (a0 : Nat) (a1 : Int32) (a2 : Int32) (a3 : Int32) (a4 : Int32) (a5 : Int32) (P : xH) : xO :=
  (f_X10_needPlace n 0 [.int a1] P).bind fun r2 => xUt r2 fun P1 =>
  (f_X10_needWithin n 0 [.int a2, .int 0, .int 100] P1).bind fun r5 => xUt r5 fun P4 =>
  (f_X10_needWithin n 0 [.int a3, .int 0, .int 100] P4).bind fun r8 => xUt r8 fun P7 =>
  (f_X10_needWithin n 0 [.int a4, .int 0, .int 20] P7).bind fun r11 => xUt r11 fun P10 =>
  (f_X10_needWithin n 0 [.int a5, .int 1, .int 1000] P10).bind fun r14 => xUt r14 fun P13 =>
  (rA P13 a0 10 1).bind fun v16 =>
  (rA P13 v16 7 7).bind fun v18 =>
  (rI P13 v18 0 5).bind fun v20 =>
  (f_X10_needSpace n 0 [.int v20, .int 5] P13).bind fun r23 => xUt r23 fun P22 =>
  (rA P22 a0 10 1).bind fun v25 =>
  (rA P22 v25 7 7).bind fun v27 =>
  (rA P22 a0 10 1).bind fun v29 =>
  (rA P22 v29 7 3).bind fun v31 =>
  (rI P22 v31 1 2).bind fun v33 =>
  (kO P22 v27 0).bind fun _ =>
  (f_X0_addStones n 0 [.ref v27, .int a1, .int a2, .int a3, .int a4, .int a5, .int v33] P22).bind fun r36 => xI r36 fun v38 P35 =>
  some (.inl (some (.int v38)), P35)
def lay_X10_stones : Nat → List Value → Option (xL × List Value)
  | 0, [a0, a1, a2, a3, a4, a5] => some ([some a0, some a1, some a2, some a3, some a4, some a5], [])
  | _, _ => none
def f_X10_stones : Nat → Nat → List Value → xH → xO
  | 0 => fun _ _ _ => none
  | n + 1 => fun pc env P => match pc, env with
    | 0, [.ref a0, .int a1, .int a2, .int a3, .int a4, .int a5] => b_X10_stones_0 n (f_X10_stones n) a0 a1 a2 a3 a4 a5 P
    | _, _ => none
set_option maxHeartbeats 2000000 in
set_option maxRecDepth 20000 in
theorem t_X10_stones_0 {G : xG} {l : Launch} (hl : l.stackTraces = false) {n : Nat} {rec : Nat → List Value → xH → xO} (hrec : ∀ pc env P z, rec pc env P = some z → ∀ L st, lay_X10_stones pc env = some (L, st) → ∀ Q : xR → xH → Prop, Q z.1 z.2 → Wp G l 10 mX10_stones pc L st P Q) {a0 a1 a2 a3 a4 a5} {P : xH} {z : xR × xH} (h : b_X10_stones_0 n rec a0 a1 a2 a3 a4 a5 P = some z) {Q : xR → xH → Prop} (hQ : Q z.1 z.2) : Wp G l 10 mX10_stones 0 [some (.ref a0), some (.int a1), some (.int a2), some (.int a3), some (.int a4), some (.int a5)] [] P Q := by
  unfold b_X10_stones_0 at h
  refine x_iload_n dX10_stones_0 rfl ?_
  obtain ⟨r2, e3, h⟩ := Option.bind_eq_some_iff.mp h
  replace h := xUt_ok h
  rcases h with ⟨P1, hr9, h⟩ | ⟨i8, P8, rfl, rfl⟩
  · subst hr9
    refine x_callS (c_X10_needPlace hl e3) dX10_stones_1 cw_X10_needPlace wl_X10_64 ws_X10_needPlace rfl (by omega) (by decide) rfl (Nat.le_of_ble_eq_true rfl) rfl (fun v9 P9 hq9 => ?_) (fun i9 P9 hq9 => by cases hq9)
    cases hq9
    refine x_iload_n dX10_stones_4 rfl ?_
    refine x_iconst 0 dX10_stones_5 (by decide) ?_
    refine x_bipush 100 dX10_stones_6 (by decide) ?_
    obtain ⟨r5, e6, h⟩ := Option.bind_eq_some_iff.mp h
    replace h := xUt_ok h
    rcases h with ⟨P4, hr9, h⟩ | ⟨i8, P8, rfl, rfl⟩
    · subst hr9
      refine x_callS (c_X10_needWithin hl e6) dX10_stones_8 cw_X10_needWithin wl_X10_67 ws_X10_needWithin rfl (by omega) (by decide) rfl (Nat.le_of_ble_eq_true rfl) rfl (fun v9 P9 hq9 => ?_) (fun i9 P9 hq9 => by cases hq9)
      cases hq9
      refine x_iload_n dX10_stones_11 rfl ?_
      refine x_iconst 0 dX10_stones_12 (by decide) ?_
      refine x_bipush 100 dX10_stones_13 (by decide) ?_
      obtain ⟨r8, e9, h⟩ := Option.bind_eq_some_iff.mp h
      replace h := xUt_ok h
      rcases h with ⟨P7, hr9, h⟩ | ⟨i8, P8, rfl, rfl⟩
      · subst hr9
        refine x_callS (c_X10_needWithin hl e9) dX10_stones_15 cw_X10_needWithin wl_X10_67 ws_X10_needWithin rfl (by omega) (by decide) rfl (Nat.le_of_ble_eq_true rfl) rfl (fun v9 P9 hq9 => ?_) (fun i9 P9 hq9 => by cases hq9)
        cases hq9
        refine x_iload dX10_stones_18 rfl ?_
        refine x_iconst 0 dX10_stones_20 (by decide) ?_
        refine x_bipush 20 dX10_stones_21 (by decide) ?_
        obtain ⟨r11, e12, h⟩ := Option.bind_eq_some_iff.mp h
        replace h := xUt_ok h
        rcases h with ⟨P10, hr9, h⟩ | ⟨i8, P8, rfl, rfl⟩
        · subst hr9
          refine x_callS (c_X10_needWithin hl e12) dX10_stones_23 cw_X10_needWithin wl_X10_67 ws_X10_needWithin rfl (by omega) (by decide) rfl (Nat.le_of_ble_eq_true rfl) rfl (fun v9 P9 hq9 => ?_) (fun i9 P9 hq9 => by cases hq9)
          cases hq9
          refine x_iload dX10_stones_26 rfl ?_
          refine x_iconst 1 dX10_stones_28 (by decide) ?_
          refine x_sipush 1000 dX10_stones_29 (by decide) ?_
          obtain ⟨r14, e15, h⟩ := Option.bind_eq_some_iff.mp h
          replace h := xUt_ok h
          rcases h with ⟨P13, hr9, h⟩ | ⟨i8, P8, rfl, rfl⟩
          · subst hr9
            refine x_callS (c_X10_needWithin hl e15) dX10_stones_32 cw_X10_needWithin wl_X10_67 ws_X10_needWithin rfl (by omega) (by decide) rfl (Nat.le_of_ble_eq_true rfl) rfl (fun v9 P9 hq9 => ?_) (fun i9 P9 hq9 => by cases hq9)
            cases hq9
            refine x_aload_nr dX10_stones_35 rfl ?_
            obtain ⟨v16, e17, h⟩ := Option.bind_eq_some_iff.mp h
            refine k_rA e17 dX10_stones_36 f_X10_19 ?_
            obtain ⟨v18, e19, h⟩ := Option.bind_eq_some_iff.mp h
            refine k_rA e19 dX10_stones_39 f_X10_257 ?_
            obtain ⟨v20, e21, h⟩ := Option.bind_eq_some_iff.mp h
            refine k_rI e21 dX10_stones_42 f_X10_261 ?_
            refine x_iconst 5 dX10_stones_45 (by decide) ?_
            obtain ⟨r23, e24, h⟩ := Option.bind_eq_some_iff.mp h
            replace h := xUt_ok h
            rcases h with ⟨P22, hr9, h⟩ | ⟨i8, P8, rfl, rfl⟩
            · subst hr9
              refine x_callS (c_X10_needSpace hl e24) dX10_stones_46 cw_X10_needSpace wl_X10_74 ws_X10_needSpace rfl (by omega) (by decide) rfl (Nat.le_of_ble_eq_true rfl) rfl (fun v9 P9 hq9 => ?_) (fun i9 P9 hq9 => by cases hq9)
              cases hq9
              refine x_aload_nr dX10_stones_49 rfl ?_
              obtain ⟨v25, e26, h⟩ := Option.bind_eq_some_iff.mp h
              refine k_rA e26 dX10_stones_50 f_X10_19 ?_
              obtain ⟨v27, e28, h⟩ := Option.bind_eq_some_iff.mp h
              refine k_rA e28 dX10_stones_53 f_X10_257 ?_
              refine x_iload_n dX10_stones_56 rfl ?_
              refine x_iload_n dX10_stones_57 rfl ?_
              refine x_iload_n dX10_stones_58 rfl ?_
              refine x_iload dX10_stones_59 rfl ?_
              refine x_iload dX10_stones_61 rfl ?_
              refine x_aload_nr dX10_stones_63 rfl ?_
              obtain ⟨v29, e30, h⟩ := Option.bind_eq_some_iff.mp h
              refine k_rA e30 dX10_stones_64 f_X10_19 ?_
              obtain ⟨v31, e32, h⟩ := Option.bind_eq_some_iff.mp h
              refine k_rA e32 dX10_stones_67 f_X10_42 ?_
              obtain ⟨v33, e34, h⟩ := Option.bind_eq_some_iff.mp h
              refine k_rI e34 dX10_stones_70 f_X10_93 ?_
              obtain ⟨_, e39, h⟩ := Option.bind_eq_some_iff.mp h
              obtain ⟨fse39, e39⟩ := kO_ok e39
              obtain ⟨r36, e37, h⟩ := Option.bind_eq_some_iff.mp h
              replace h := xI_ok h
              obtain ⟨v38, P35, rfl, h⟩ := h
              refine x_callV (c_X0_addStones hl e37) dX10_stones_73 cw_X0_addStones wl_X10_266 wi_X0_addStones wse_X0_addStones rfl e39 (by decide) rfl (by omega) (by decide) rfl (Nat.le_of_ble_eq_true rfl) rfl (fun v9 P9 hq9 => ?_) (fun i9 P9 hq9 => by cases hq9)
              cases hq9
              cases h
              exact x_iret .int rfl rfl dX10_stones_76 hQ
            · exact x_callS (c_X10_needSpace hl e24) dX10_stones_46 cw_X10_needSpace wl_X10_74 ws_X10_needSpace rfl (by omega) (by decide) rfl (Nat.le_of_ble_eq_true rfl) rfl (fun v9 P9 hq9 => by cases hq9) (fun i9 P9 hq9 => by cases hq9; exact hQ)
          · exact x_callS (c_X10_needWithin hl e15) dX10_stones_32 cw_X10_needWithin wl_X10_67 ws_X10_needWithin rfl (by omega) (by decide) rfl (Nat.le_of_ble_eq_true rfl) rfl (fun v9 P9 hq9 => by cases hq9) (fun i9 P9 hq9 => by cases hq9; exact hQ)
        · exact x_callS (c_X10_needWithin hl e12) dX10_stones_23 cw_X10_needWithin wl_X10_67 ws_X10_needWithin rfl (by omega) (by decide) rfl (Nat.le_of_ble_eq_true rfl) rfl (fun v9 P9 hq9 => by cases hq9) (fun i9 P9 hq9 => by cases hq9; exact hQ)
      · exact x_callS (c_X10_needWithin hl e9) dX10_stones_15 cw_X10_needWithin wl_X10_67 ws_X10_needWithin rfl (by omega) (by decide) rfl (Nat.le_of_ble_eq_true rfl) rfl (fun v9 P9 hq9 => by cases hq9) (fun i9 P9 hq9 => by cases hq9; exact hQ)
    · exact x_callS (c_X10_needWithin hl e6) dX10_stones_8 cw_X10_needWithin wl_X10_67 ws_X10_needWithin rfl (by omega) (by decide) rfl (Nat.le_of_ble_eq_true rfl) rfl (fun v9 P9 hq9 => by cases hq9) (fun i9 P9 hq9 => by cases hq9; exact hQ)
  · exact x_callS (c_X10_needPlace hl e3) dX10_stones_1 cw_X10_needPlace wl_X10_64 ws_X10_needPlace rfl (by omega) (by decide) rfl (Nat.le_of_ble_eq_true rfl) rfl (fun v9 P9 hq9 => by cases hq9) (fun i9 P9 hq9 => by cases hq9; exact hQ)
theorem s_X10_stones {G : xG} {l : Launch} (hl : l.stackTraces = false) : ∀ n pc env P z, f_X10_stones n pc env P = some z → ∀ L st, lay_X10_stones pc env = some (L, st) → ∀ Q : xR → xH → Prop, Q z.1 z.2 → Wp G l 10 mX10_stones pc L st P Q := by
  intro n
  induction n with
  | zero => intro pc env P z h; cases h
  | succ n ih =>
    intro pc env P z h L st hlay Q hQ
    unfold f_X10_stones at h
    split at h
    · cases hlay
      exact t_X10_stones_0 hl ih h hQ
    · cases h
theorem c_X10_stones {G : xG} {l : Launch} (hl : l.stackTraces = false) {n : Nat} {as : List Value} {P : xH} {z : xR × xH} (h : f_X10_stones n 0 as P = some z) : Ct G l 10 mX10_stones as P (fun r P1 => (r, P1) = z) := by
  cases n with
  | zero => cases h
  | succ n =>
    unfold f_X10_stones at h
    split at h
    · exact Ct.of hl (by decide +kernel) wc_X10_stones (Nat.le_of_ble_eq_true rfl) (t_X10_stones_0 hl (s_X10_stones hl _) h rfl)
    all_goals first | (cases h; done) | (rename_i q9 _; exact absurd q9 (by decide)) | (rename_i q9; exact absurd q9 (by decide)) | contradiction
