/-! QuakeNet$Rows.become(LQuakeNet$Rows;)V -/
def b_X4_become_0 (n : Nat) (rec : Nat → List Value → xH → xO) (a0 : Nat) (a1 : Nat) (P : xH) : xO :=
  (rA P a1 4 0).bind fun v1 =>
  (rA P a0 4 0).bind fun v3 =>
  (f_X10_copyRow n 0 [.ref v1, .ref v3] P).bind fun r6 => xU r6 fun P5 =>
  (rA P5 a1 4 1).bind fun v8 =>
  (rA P5 a0 4 1).bind fun v10 =>
  (f_X10_copyRow n 0 [.ref v8, .ref v10] P5).bind fun r13 => xU r13 fun P12 =>
  (rI P12 a1 4 2).bind fun v15 =>
  (wV P12 a0 4 2 (.int v15)).bind fun P17 =>
  some (.inl none, P17)
def lay_X4_become : Nat → List Value → Option (xL × List Value)
  | 0, [a0, a1] => some ([some a0, some a1], [])
  | _, _ => none
def f_X4_become : Nat → Nat → List Value → xH → xO
  | 0 => fun _ _ _ => none
  | n + 1 => fun pc env P => match pc, env with
    | 0, [.ref a0, .ref a1] => b_X4_become_0 n (f_X4_become n) a0 a1 P
    | _, _ => none
set_option maxHeartbeats 2000000 in
set_option maxRecDepth 20000 in
theorem t_X4_become_0 {G : xG} {l : Launch} (hl : l.stackTraces = false) {n : Nat} {rec : Nat → List Value → xH → xO} (hrec : ∀ pc env P z, rec pc env P = some z → ∀ L st, lay_X4_become pc env = some (L, st) → ∀ Q : xR → xH → Prop, Q z.1 z.2 → Wp G l 8 mX4_become pc L st P Q) {a0 a1} {P : xH} {z : xR × xH} (h : b_X4_become_0 n rec a0 a1 P = some z) {Q : xR → xH → Prop} (hQ : Q z.1 z.2) : Wp G l 8 mX4_become 0 [some (.ref a0), some (.ref a1)] [] P Q := by
  unfold b_X4_become_0 at h
  refine x_aload_nr dX4_become_0 rfl ?_
  obtain ⟨v1, e2, h⟩ := Option.bind_eq_some_iff.mp h
  refine k_rA e2 dX4_become_1 f_X4_11 ?_
  refine x_aload_nr dX4_become_4 rfl ?_
  obtain ⟨v3, e4, h⟩ := Option.bind_eq_some_iff.mp h
  refine k_rA e4 dX4_become_5 f_X4_11 ?_
  obtain ⟨r6, e7, h⟩ := Option.bind_eq_some_iff.mp h
  replace h := xU_ok h
  obtain ⟨P5, rfl, h⟩ := h
  refine x_callSN (c_X10_copyRow hl e7) dX4_become_8 cw_X10_copyRow wn_X4_18 ws_X10_copyRow rfl (by omega) (by decide) rfl (Nat.le_of_ble_eq_true rfl) (fun i9 P9 hq9 => by cases hq9) (fun v9 P9 hq9 => ?_)
  cases hq9
  refine x_aload_nr dX4_become_11 rfl ?_
  obtain ⟨v8, e9, h⟩ := Option.bind_eq_some_iff.mp h
  refine k_rA e9 dX4_become_12 f_X4_15 ?_
  refine x_aload_nr dX4_become_15 rfl ?_
  obtain ⟨v10, e11, h⟩ := Option.bind_eq_some_iff.mp h
  refine k_rA e11 dX4_become_16 f_X4_15 ?_
  obtain ⟨r13, e14, h⟩ := Option.bind_eq_some_iff.mp h
  replace h := xU_ok h
  obtain ⟨P12, rfl, h⟩ := h
  refine x_callSN (c_X10_copyRow hl e14) dX4_become_19 cw_X10_copyRow wn_X4_18 ws_X10_copyRow rfl (by omega) (by decide) rfl (Nat.le_of_ble_eq_true rfl) (fun i9 P9 hq9 => by cases hq9) (fun v9 P9 hq9 => ?_)
  cases hq9
  refine x_aload_nr dX4_become_22 rfl ?_
  refine x_aload_nr dX4_become_23 rfl ?_
  obtain ⟨v15, e16, h⟩ := Option.bind_eq_some_iff.mp h
  refine k_rI e16 dX4_become_24 f_X4_22 ?_
  obtain ⟨P17, e18, h⟩ := Option.bind_eq_some_iff.mp h
  refine k_wI e18 dX4_become_27 f_X4_22 (Or.inl (by decide)) rfl ?_
  cases h
  exact x_ret rfl dX4_become_30 hQ
theorem s_X4_become {G : xG} {l : Launch} (hl : l.stackTraces = false) : ∀ n pc env P z, f_X4_become n pc env P = some z → ∀ L st, lay_X4_become pc env = some (L, st) → ∀ Q : xR → xH → Prop, Q z.1 z.2 → Wp G l 8 mX4_become pc L st P Q := by
  intro n
  induction n with
  | zero => intro pc env P z h; cases h
  | succ n ih =>
    intro pc env P z h L st hlay Q hQ
    unfold f_X4_become at h
    split at h
    · cases hlay
      exact t_X4_become_0 hl ih h hQ
    · cases h
theorem c_X4_become {G : xG} {l : Launch} (hl : l.stackTraces = false) {n : Nat} {as : List Value} {P : xH} {z : xR × xH} (h : f_X4_become n 0 as P = some z) : Ct G l 8 mX4_become as P (fun r P1 => (r, P1) = z) := by
  cases n with
  | zero => cases h
  | succ n =>
    unfold f_X4_become at h
    split at h
    · exact Ct.of hl (by decide +kernel) wc_X4_become (Nat.le_of_ble_eq_true rfl) (t_X4_become_0 hl (s_X4_become hl _) h rfl)
    all_goals first | (cases h; done) | (rename_i q9 _; exact absurd q9 (by decide)) | (rename_i q9; exact absurd q9 (by decide)) | contradiction
/-! QuakeNet$Rules.become(LQuakeNet$Rules;)V -/
def b_X5_become_0 (n : Nat) (rec : Nat → List Value → xH → xO) (a0 : Nat) (a1 : Nat) (P : xH) : xO :=
  (rA P a1 5 0).bind fun v1 =>
  (rA P a0 5 0).bind fun v3 =>
  (f_X10_copyRow n 0 [.ref v1, .ref v3] P).bind fun r6 => xU r6 fun P5 =>
  (rA P5 a1 5 1).bind fun v8 =>
  (rA P5 a0 5 1).bind fun v10 =>
  (f_X10_copyRow n 0 [.ref v8, .ref v10] P5).bind fun r13 => xU r13 fun P12 =>
  (rA P12 a1 5 2).bind fun v15 =>
  (rA P12 a0 5 2).bind fun v17 =>
  (f_X10_copyRow n 0 [.ref v15, .ref v17] P12).bind fun r20 => xU r20 fun P19 =>
  (rA P19 a1 5 4).bind fun v22 =>
  (rA P19 a0 5 4).bind fun v24 =>
  (f_X10_copyRow n 0 [.ref v22, .ref v24] P19).bind fun r27 => xU r27 fun P26 =>
  (rI P26 a1 5 3).bind fun v29 =>
  (wV P26 a0 5 3 (.int v29)).bind fun P31 =>
  (rI P31 a1 5 5).bind fun v33 =>
  (wV P31 a0 5 5 (.int v33)).bind fun P35 =>
  some (.inl none, P35)
def lay_X5_become : Nat → List Value → Option (xL × List Value)
  | 0, [a0, a1] => some ([some a0, some a1], [])
  | _, _ => none
def f_X5_become : Nat → Nat → List Value → xH → xO
  | 0 => fun _ _ _ => none
  | n + 1 => fun pc env P => match pc, env with
    | 0, [.ref a0, .ref a1] => b_X5_become_0 n (f_X5_become n) a0 a1 P
    | _, _ => none
set_option maxHeartbeats 2000000 in
set_option maxRecDepth 20000 in
theorem t_X5_become_0 {G : xG} {l : Launch} (hl : l.stackTraces = false) {n : Nat} {rec : Nat → List Value → xH → xO} (hrec : ∀ pc env P z, rec pc env P = some z → ∀ L st, lay_X5_become pc env = some (L, st) → ∀ Q : xR → xH → Prop, Q z.1 z.2 → Wp G l 8 mX5_become pc L st P Q) {a0 a1} {P : xH} {z : xR × xH} (h : b_X5_become_0 n rec a0 a1 P = some z) {Q : xR → xH → Prop} (hQ : Q z.1 z.2) : Wp G l 8 mX5_become 0 [some (.ref a0), some (.ref a1)] [] P Q := by
  unfold b_X5_become_0 at h
  refine x_aload_nr dX5_become_0 rfl ?_
  obtain ⟨v1, e2, h⟩ := Option.bind_eq_some_iff.mp h
  refine k_rA e2 dX5_become_1 f_X5_9 ?_
  refine x_aload_nr dX5_become_4 rfl ?_
  obtain ⟨v3, e4, h⟩ := Option.bind_eq_some_iff.mp h
  refine k_rA e4 dX5_become_5 f_X5_9 ?_
  obtain ⟨r6, e7, h⟩ := Option.bind_eq_some_iff.mp h
  replace h := xU_ok h
  obtain ⟨P5, rfl, h⟩ := h
  refine x_callSN (c_X10_copyRow hl e7) dX5_become_8 cw_X10_copyRow wn_X5_32 ws_X10_copyRow rfl (by omega) (by decide) rfl (Nat.le_of_ble_eq_true rfl) (fun i9 P9 hq9 => by cases hq9) (fun v9 P9 hq9 => ?_)
  cases hq9
  refine x_aload_nr dX5_become_11 rfl ?_
  obtain ⟨v8, e9, h⟩ := Option.bind_eq_some_iff.mp h
  refine k_rA e9 dX5_become_12 f_X5_13 ?_
  refine x_aload_nr dX5_become_15 rfl ?_
  obtain ⟨v10, e11, h⟩ := Option.bind_eq_some_iff.mp h
  refine k_rA e11 dX5_become_16 f_X5_13 ?_
  obtain ⟨r13, e14, h⟩ := Option.bind_eq_some_iff.mp h
  replace h := xU_ok h
  obtain ⟨P12, rfl, h⟩ := h
  refine x_callSN (c_X10_copyRow hl e14) dX5_become_19 cw_X10_copyRow wn_X5_32 ws_X10_copyRow rfl (by omega) (by decide) rfl (Nat.le_of_ble_eq_true rfl) (fun i9 P9 hq9 => by cases hq9) (fun v9 P9 hq9 => ?_)
  cases hq9
  refine x_aload_nr dX5_become_22 rfl ?_
  obtain ⟨v15, e16, h⟩ := Option.bind_eq_some_iff.mp h
  refine k_rA e16 dX5_become_23 f_X5_16 ?_
  refine x_aload_nr dX5_become_26 rfl ?_
  obtain ⟨v17, e18, h⟩ := Option.bind_eq_some_iff.mp h
  refine k_rA e18 dX5_become_27 f_X5_16 ?_
  obtain ⟨r20, e21, h⟩ := Option.bind_eq_some_iff.mp h
  replace h := xU_ok h
  obtain ⟨P19, rfl, h⟩ := h
  refine x_callSN (c_X10_copyRow hl e21) dX5_become_30 cw_X10_copyRow wn_X5_32 ws_X10_copyRow rfl (by omega) (by decide) rfl (Nat.le_of_ble_eq_true rfl) (fun i9 P9 hq9 => by cases hq9) (fun v9 P9 hq9 => ?_)
  cases hq9
  refine x_aload_nr dX5_become_33 rfl ?_
  obtain ⟨v22, e23, h⟩ := Option.bind_eq_some_iff.mp h
  refine k_rA e23 dX5_become_34 f_X5_19 ?_
  refine x_aload_nr dX5_become_37 rfl ?_
  obtain ⟨v24, e25, h⟩ := Option.bind_eq_some_iff.mp h
  refine k_rA e25 dX5_become_38 f_X5_19 ?_
  obtain ⟨r27, e28, h⟩ := Option.bind_eq_some_iff.mp h
  replace h := xU_ok h
  obtain ⟨P26, rfl, h⟩ := h
  refine x_callSN (c_X10_copyRow hl e28) dX5_become_41 cw_X10_copyRow wn_X5_32 ws_X10_copyRow rfl (by omega) (by decide) rfl (Nat.le_of_ble_eq_true rfl) (fun i9 P9 hq9 => by cases hq9) (fun v9 P9 hq9 => ?_)
  cases hq9
  refine x_aload_nr dX5_become_44 rfl ?_
  refine x_aload_nr dX5_become_45 rfl ?_
  obtain ⟨v29, e30, h⟩ := Option.bind_eq_some_iff.mp h
  refine k_rI e30 dX5_become_46 f_X5_25 ?_
  obtain ⟨P31, e32, h⟩ := Option.bind_eq_some_iff.mp h
  refine k_wI e32 dX5_become_49 f_X5_25 (Or.inl (by decide)) rfl ?_
  refine x_aload_nr dX5_become_52 rfl ?_
  refine x_aload_nr dX5_become_53 rfl ?_
  obtain ⟨v33, e34, h⟩ := Option.bind_eq_some_iff.mp h
  refine k_rI e34 dX5_become_54 f_X5_29 ?_
  obtain ⟨P35, e36, h⟩ := Option.bind_eq_some_iff.mp h
  refine k_wI e36 dX5_become_57 f_X5_29 (Or.inl (by decide)) rfl ?_
  cases h
  exact x_ret rfl dX5_become_60 hQ
theorem s_X5_become {G : xG} {l : Launch} (hl : l.stackTraces = false) : ∀ n pc env P z, f_X5_become n pc env P = some z → ∀ L st, lay_X5_become pc env = some (L, st) → ∀ Q : xR → xH → Prop, Q z.1 z.2 → Wp G l 8 mX5_become pc L st P Q := by
  intro n
  induction n with
  | zero => intro pc env P z h; cases h
  | succ n ih =>
    intro pc env P z h L st hlay Q hQ
    unfold f_X5_become at h
    split at h
    · cases hlay
      exact t_X5_become_0 hl ih h hQ
    · cases h
theorem c_X5_become {G : xG} {l : Launch} (hl : l.stackTraces = false) {n : Nat} {as : List Value} {P : xH} {z : xR × xH} (h : f_X5_become n 0 as P = some z) : Ct G l 8 mX5_become as P (fun r P1 => (r, P1) = z) := by
  cases n with
  | zero => cases h
  | succ n =>
    unfold f_X5_become at h
    split at h
    · exact Ct.of hl (by decide +kernel) wc_X5_become (Nat.le_of_ble_eq_true rfl) (t_X5_become_0 hl (s_X5_become hl _) h rfl)
    all_goals first | (cases h; done) | (rename_i q9 _; exact absurd q9 (by decide)) | (rename_i q9; exact absurd q9 (by decide)) | contradiction
/-! QuakeNet$Walks.become(LQuakeNet$Walks;)V -/
def b_X8_become_0 (n : Nat) (rec : Nat → List Value → xH → xO) (a0 : Nat) (a1 : Nat) (P : xH) : xO :=
  (rA P a1 8 0).bind fun v1 =>
  (rA P a0 8 0).bind fun v3 =>
  (f_X10_copyRows n 0 [.ref v1, .ref v3] P).bind fun r6 => xU r6 fun P5 =>
  (rA P5 a1 8 1).bind fun v8 =>
  (rA P5 a0 8 1).bind fun v10 =>
  (f_X10_copyRows n 0 [.ref v8, .ref v10] P5).bind fun r13 => xU r13 fun P12 =>
  (rA P12 a1 8 2).bind fun v15 =>
  (rA P12 a0 8 2).bind fun v17 =>
  (f_X10_copyRows n 0 [.ref v15, .ref v17] P12).bind fun r20 => xU r20 fun P19 =>
  (rA P19 a1 8 3).bind fun v22 =>
  (rA P19 a0 8 3).bind fun v24 =>
  (f_X10_copyRow n 0 [.ref v22, .ref v24] P19).bind fun r27 => xU r27 fun P26 =>
  some (.inl none, P26)
def lay_X8_become : Nat → List Value → Option (xL × List Value)
  | 0, [a0, a1] => some ([some a0, some a1], [])
  | _, _ => none
def f_X8_become : Nat → Nat → List Value → xH → xO
  | 0 => fun _ _ _ => none
  | n + 1 => fun pc env P => match pc, env with
    | 0, [.ref a0, .ref a1] => b_X8_become_0 n (f_X8_become n) a0 a1 P
    | _, _ => none
set_option maxHeartbeats 2000000 in
set_option maxRecDepth 20000 in
theorem t_X8_become_0 {G : xG} {l : Launch} (hl : l.stackTraces = false) {n : Nat} {rec : Nat → List Value → xH → xO} (hrec : ∀ pc env P z, rec pc env P = some z → ∀ L st, lay_X8_become pc env = some (L, st) → ∀ Q : xR → xH → Prop, Q z.1 z.2 → Wp G l 9 mX8_become pc L st P Q) {a0 a1} {P : xH} {z : xR × xH} (h : b_X8_become_0 n rec a0 a1 P = some z) {Q : xR → xH → Prop} (hQ : Q z.1 z.2) : Wp G l 9 mX8_become 0 [some (.ref a0), some (.ref a1)] [] P Q := by
  unfold b_X8_become_0 at h
  refine x_aload_nr dX8_become_0 rfl ?_
  obtain ⟨v1, e2, h⟩ := Option.bind_eq_some_iff.mp h
  refine k_rA e2 dX8_become_1 f_X8_13 ?_
  refine x_aload_nr dX8_become_4 rfl ?_
  obtain ⟨v3, e4, h⟩ := Option.bind_eq_some_iff.mp h
  refine k_rA e4 dX8_become_5 f_X8_13 ?_
  obtain ⟨r6, e7, h⟩ := Option.bind_eq_some_iff.mp h
  replace h := xU_ok h
  obtain ⟨P5, rfl, h⟩ := h
  refine x_callSN (c_X10_copyRows hl e7) dX8_become_8 cw_X10_copyRows wn_X8_26 ws_X10_copyRows rfl (by omega) (by decide) rfl (Nat.le_of_ble_eq_true rfl) (fun i9 P9 hq9 => by cases hq9) (fun v9 P9 hq9 => ?_)
  cases hq9
  refine x_aload_nr dX8_become_11 rfl ?_
  obtain ⟨v8, e9, h⟩ := Option.bind_eq_some_iff.mp h
  refine k_rA e9 dX8_become_12 f_X8_16 ?_
  refine x_aload_nr dX8_become_15 rfl ?_
  obtain ⟨v10, e11, h⟩ := Option.bind_eq_some_iff.mp h
  refine k_rA e11 dX8_become_16 f_X8_16 ?_
  obtain ⟨r13, e14, h⟩ := Option.bind_eq_some_iff.mp h
  replace h := xU_ok h
  obtain ⟨P12, rfl, h⟩ := h
  refine x_callSN (c_X10_copyRows hl e14) dX8_become_19 cw_X10_copyRows wn_X8_26 ws_X10_copyRows rfl (by omega) (by decide) rfl (Nat.le_of_ble_eq_true rfl) (fun i9 P9 hq9 => by cases hq9) (fun v9 P9 hq9 => ?_)
  cases hq9
  refine x_aload_nr dX8_become_22 rfl ?_
  obtain ⟨v15, e16, h⟩ := Option.bind_eq_some_iff.mp h
  refine k_rA e16 dX8_become_23 f_X8_19 ?_
  refine x_aload_nr dX8_become_26 rfl ?_
  obtain ⟨v17, e18, h⟩ := Option.bind_eq_some_iff.mp h
  refine k_rA e18 dX8_become_27 f_X8_19 ?_
  obtain ⟨r20, e21, h⟩ := Option.bind_eq_some_iff.mp h
  replace h := xU_ok h
  obtain ⟨P19, rfl, h⟩ := h
  refine x_callSN (c_X10_copyRows hl e21) dX8_become_30 cw_X10_copyRows wn_X8_26 ws_X10_copyRows rfl (by omega) (by decide) rfl (Nat.le_of_ble_eq_true rfl) (fun i9 P9 hq9 => by cases hq9) (fun v9 P9 hq9 => ?_)
  cases hq9
  refine x_aload_nr dX8_become_33 rfl ?_
  obtain ⟨v22, e23, h⟩ := Option.bind_eq_some_iff.mp h
  refine k_rA e23 dX8_become_34 f_X8_22 ?_
  refine x_aload_nr dX8_become_37 rfl ?_
  obtain ⟨v24, e25, h⟩ := Option.bind_eq_some_iff.mp h
  refine k_rA e25 dX8_become_38 f_X8_22 ?_
  obtain ⟨r27, e28, h⟩ := Option.bind_eq_some_iff.mp h
  replace h := xU_ok h
  obtain ⟨P26, rfl, h⟩ := h
  refine x_callSN (c_X10_copyRow hl e28) dX8_become_41 cw_X10_copyRow wn_X8_30 ws_X10_copyRow rfl (by omega) (by decide) rfl (Nat.le_of_ble_eq_true rfl) (fun i9 P9 hq9 => by cases hq9) (fun v9 P9 hq9 => ?_)
  cases hq9
  cases h
  exact x_ret rfl dX8_become_44 hQ
theorem s_X8_become {G : xG} {l : Launch} (hl : l.stackTraces = false) : ∀ n pc env P z, f_X8_become n pc env P = some z → ∀ L st, lay_X8_become pc env = some (L, st) → ∀ Q : xR → xH → Prop, Q z.1 z.2 → Wp G l 9 mX8_become pc L st P Q := by
  intro n
  induction n with
  | zero => intro pc env P z h; cases h
  | succ n ih =>
    intro pc env P z h L st hlay Q hQ
    unfold f_X8_become at h
    split at h
    · cases hlay
      exact t_X8_become_0 hl ih h hQ
    · cases h
theorem c_X8_become {G : xG} {l : Launch} (hl : l.stackTraces = false) {n : Nat} {as : List Value} {P : xH} {z : xR × xH} (h : f_X8_become n 0 as P = some z) : Ct G l 9 mX8_become as P (fun r P1 => (r, P1) = z) := by
  cases n with
  | zero => cases h
  | succ n =>
    unfold f_X8_become at h
    split at h
    · exact Ct.of hl (by decide +kernel) wc_X8_become (Nat.le_of_ble_eq_true rfl) (t_X8_become_0 hl (s_X8_become hl _) h rfl)
    all_goals first | (cases h; done) | (rename_i q9 _; exact absurd q9 (by decide)) | (rename_i q9; exact absurd q9 (by decide)) | contradiction
/-! QuakeNet$Words.become(LQuakeNet$Words;)V -/
def b_X9_become_0 (n : Nat) (rec : Nat → List Value → xH → xO) (a0 : Nat) (a1 : Nat) (P : xH) : xO :=
  (rA P a1 9 0).bind fun v1 =>
  (rA P a0 9 0).bind fun v3 =>
  (f_X10_copyRows n 0 [.ref v1, .ref v3] P).bind fun r6 => xU r6 fun P5 =>
  (rA P5 a1 9 1).bind fun v8 =>
  (rA P5 a0 9 1).bind fun v10 =>
  (f_X10_copyRow n 0 [.ref v8, .ref v10] P5).bind fun r13 => xU r13 fun P12 =>
  (rA P12 a1 9 2).bind fun v15 =>
  (rA P12 a0 9 2).bind fun v17 =>
  (f_X10_copyRow n 0 [.ref v15, .ref v17] P12).bind fun r20 => xU r20 fun P19 =>
  (rI P19 a1 9 3).bind fun v22 =>
  (wV P19 a0 9 3 (.int v22)).bind fun P24 =>
  some (.inl none, P24)
def lay_X9_become : Nat → List Value → Option (xL × List Value)
  | 0, [a0, a1] => some ([some a0, some a1], [])
  | _, _ => none
def f_X9_become : Nat → Nat → List Value → xH → xO
  | 0 => fun _ _ _ => none
  | n + 1 => fun pc env P => match pc, env with
    | 0, [.ref a0, .ref a1] => b_X9_become_0 n (f_X9_become n) a0 a1 P
    | _, _ => none
set_option maxHeartbeats 2000000 in
set_option maxRecDepth 20000 in
theorem t_X9_become_0 {G : xG} {l : Launch} (hl : l.stackTraces = false) {n : Nat} {rec : Nat → List Value → xH → xO} (hrec : ∀ pc env P z, rec pc env P = some z → ∀ L st, lay_X9_become pc env = some (L, st) → ∀ Q : xR → xH → Prop, Q z.1 z.2 → Wp G l 9 mX9_become pc L st P Q) {a0 a1} {P : xH} {z : xR × xH} (h : b_X9_become_0 n rec a0 a1 P = some z) {Q : xR → xH → Prop} (hQ : Q z.1 z.2) : Wp G l 9 mX9_become 0 [some (.ref a0), some (.ref a1)] [] P Q := by
  unfold b_X9_become_0 at h
  refine x_aload_nr dX9_become_0 rfl ?_
  obtain ⟨v1, e2, h⟩ := Option.bind_eq_some_iff.mp h
  refine k_rA e2 dX9_become_1 f_X9_13 ?_
  refine x_aload_nr dX9_become_4 rfl ?_
  obtain ⟨v3, e4, h⟩ := Option.bind_eq_some_iff.mp h
  refine k_rA e4 dX9_become_5 f_X9_13 ?_
  obtain ⟨r6, e7, h⟩ := Option.bind_eq_some_iff.mp h
  replace h := xU_ok h
  obtain ⟨P5, rfl, h⟩ := h
  refine x_callSN (c_X10_copyRows hl e7) dX9_become_8 cw_X10_copyRows wn_X9_23 ws_X10_copyRows rfl (by omega) (by decide) rfl (Nat.le_of_ble_eq_true rfl) (fun i9 P9 hq9 => by cases hq9) (fun v9 P9 hq9 => ?_)
  cases hq9
  refine x_aload_nr dX9_become_11 rfl ?_
  obtain ⟨v8, e9, h⟩ := Option.bind_eq_some_iff.mp h
  refine k_rA e9 dX9_become_12 f_X9_16 ?_
  refine x_aload_nr dX9_become_15 rfl ?_
  obtain ⟨v10, e11, h⟩ := Option.bind_eq_some_iff.mp h
  refine k_rA e11 dX9_become_16 f_X9_16 ?_
  obtain ⟨r13, e14, h⟩ := Option.bind_eq_some_iff.mp h
  replace h := xU_ok h
  obtain ⟨P12, rfl, h⟩ := h
  refine x_callSN (c_X10_copyRow hl e14) dX9_become_19 cw_X10_copyRow wn_X9_27 ws_X10_copyRow rfl (by omega) (by decide) rfl (Nat.le_of_ble_eq_true rfl) (fun i9 P9 hq9 => by cases hq9) (fun v9 P9 hq9 => ?_)
  cases hq9
  refine x_aload_nr dX9_become_22 rfl ?_
  obtain ⟨v15, e16, h⟩ := Option.bind_eq_some_iff.mp h
  refine k_rA e16 dX9_become_23 f_X9_20 ?_
  refine x_aload_nr dX9_become_26 rfl ?_
  obtain ⟨v17, e18, h⟩ := Option.bind_eq_some_iff.mp h
  refine k_rA e18 dX9_become_27 f_X9_20 ?_
  obtain ⟨r20, e21, h⟩ := Option.bind_eq_some_iff.mp h
  replace h := xU_ok h
  obtain ⟨P19, rfl, h⟩ := h
  refine x_callSN (c_X10_copyRow hl e21) dX9_become_30 cw_X10_copyRow wn_X9_27 ws_X10_copyRow rfl (by omega) (by decide) rfl (Nat.le_of_ble_eq_true rfl) (fun i9 P9 hq9 => by cases hq9) (fun v9 P9 hq9 => ?_)
  cases hq9
  refine x_aload_nr dX9_become_33 rfl ?_
  refine x_aload_nr dX9_become_34 rfl ?_
  obtain ⟨v22, e23, h⟩ := Option.bind_eq_some_iff.mp h
  refine k_rI e23 dX9_become_35 f_X9_31 ?_
  obtain ⟨P24, e25, h⟩ := Option.bind_eq_some_iff.mp h
  refine k_wI e25 dX9_become_38 f_X9_31 (Or.inl (by decide)) rfl ?_
  cases h
  exact x_ret rfl dX9_become_41 hQ
theorem s_X9_become {G : xG} {l : Launch} (hl : l.stackTraces = false) : ∀ n pc env P z, f_X9_become n pc env P = some z → ∀ L st, lay_X9_become pc env = some (L, st) → ∀ Q : xR → xH → Prop, Q z.1 z.2 → Wp G l 9 mX9_become pc L st P Q := by
  intro n
  induction n with
  | zero => intro pc env P z h; cases h
  | succ n ih =>
    intro pc env P z h L st hlay Q hQ
    unfold f_X9_become at h
    split at h
    · cases hlay
      exact t_X9_become_0 hl ih h hQ
    · cases h
theorem c_X9_become {G : xG} {l : Launch} (hl : l.stackTraces = false) {n : Nat} {as : List Value} {P : xH} {z : xR × xH} (h : f_X9_become n 0 as P = some z) : Ct G l 9 mX9_become as P (fun r P1 => (r, P1) = z) := by
  cases n with
  | zero => cases h
  | succ n =>
    unfold f_X9_become at h
    split at h
    · exact Ct.of hl (by decide +kernel) wc_X9_become (Nat.le_of_ble_eq_true rfl) (t_X9_become_0 hl (s_X9_become hl _) h rfl)
    all_goals first | (cases h; done) | (rename_i q9 _; exact absurd q9 (by decide)) | (rename_i q9; exact absurd q9 (by decide)) | contradiction
/-! QuakeNet$Town.become(LQuakeNet$Town;)V -/
def b_X7_become_0 (n : Nat) (rec : Nat → List Value → xH → xO) (a0 : Nat) (a1 : Nat) (P : xH) : xO :=
  (rA P a0 7 0).bind fun v1 =>
  (rA P a1 7 0).bind fun v3 =>
  (kO P v1 5).bind fun _ =>
  (f_X5_become n 0 [.ref v1, .ref v3] P).bind fun r6 => xU r6 fun P5 =>
  (rA P5 a0 7 1).bind fun v9 =>
  (rA P5 a1 7 1).bind fun v11 =>
  (kO P5 v9 9).bind fun _ =>
  (f_X9_become n 0 [.ref v9, .ref v11] P5).bind fun r14 => xU r14 fun P13 =>
  (rA P13 a0 7 2).bind fun v17 =>
  (rA P13 a1 7 2).bind fun v19 =>
  (kO P13 v17 8).bind fun _ =>
  (f_X8_become n 0 [.ref v17, .ref v19] P13).bind fun r22 => xU r22 fun P21 =>
  (rA P21 a0 7 3).bind fun v25 =>
  (rA P21 a1 7 3).bind fun v27 =>
  (kO P21 v25 1).bind fun _ =>
  (f_X1_become n 0 [.ref v25, .ref v27] P21).bind fun r30 => xU r30 fun P29 =>
  (rA P29 a0 7 4).bind fun v33 =>
  (rA P29 a1 7 4).bind fun v35 =>
  (kO P29 v33 1).bind fun _ =>
  (f_X1_become n 0 [.ref v33, .ref v35] P29).bind fun r38 => xU r38 fun P37 =>
  (rA P37 a0 7 5).bind fun v41 =>
  (rA P37 a1 7 5).bind fun v43 =>
  (kO P37 v41 4).bind fun _ =>
  (f_X4_become n 0 [.ref v41, .ref v43] P37).bind fun r46 => xU r46 fun P45 =>
  (rA P45 a0 7 6).bind fun v49 =>
  (rA P45 a1 7 6).bind fun v51 =>
  (kO P45 v49 2).bind fun _ =>
  (f_X2_become n 0 [.ref v49, .ref v51] P45).bind fun r54 => xU r54 fun P53 =>
  (rA P53 a0 7 7).bind fun v57 =>
  (rA P53 a1 7 7).bind fun v59 =>
  (kO P53 v57 0).bind fun _ =>
  (f_X0_become n 0 [.ref v57, .ref v59] P53).bind fun r62 => xU r62 fun P61 =>
  (rI P61 a1 7 8).bind fun v65 =>
  (wV P61 a0 7 8 (.int v65)).bind fun P67 =>
  (rI P67 a1 7 9).bind fun v69 =>
  (wV P67 a0 7 9 (.int v69)).bind fun P71 =>
  some (.inl none, P71)
def lay_X7_become : Nat → List Value → Option (xL × List Value)
  | 0, [a0, a1] => some ([some a0, some a1], [])
  | _, _ => none
def f_X7_become : Nat → Nat → List Value → xH → xO
  | 0 => fun _ _ _ => none
  | n + 1 => fun pc env P => match pc, env with
    | 0, [.ref a0, .ref a1] => b_X7_become_0 n (f_X7_become n) a0 a1 P
    | _, _ => none
set_option maxHeartbeats 2000000 in
set_option maxRecDepth 20000 in
theorem t_X7_become_0 {G : xG} {l : Launch} (hl : l.stackTraces = false) {n : Nat} {rec : Nat → List Value → xH → xO} (hrec : ∀ pc env P z, rec pc env P = some z → ∀ L st, lay_X7_become pc env = some (L, st) → ∀ Q : xR → xH → Prop, Q z.1 z.2 → Wp G l 10 mX7_become pc L st P Q) {a0 a1} {P : xH} {z : xR × xH} (h : b_X7_become_0 n rec a0 a1 P = some z) {Q : xR → xH → Prop} (hQ : Q z.1 z.2) : Wp G l 10 mX7_become 0 [some (.ref a0), some (.ref a1)] [] P Q := by
  unfold b_X7_become_0 at h
  refine x_aload_nr dX7_become_0 rfl ?_
  obtain ⟨v1, e2, h⟩ := Option.bind_eq_some_iff.mp h
  refine k_rA e2 dX7_become_1 f_X7_10 ?_
  refine x_aload_nr dX7_become_4 rfl ?_
  obtain ⟨v3, e4, h⟩ := Option.bind_eq_some_iff.mp h
  refine k_rA e4 dX7_become_5 f_X7_10 ?_
  obtain ⟨_, e8, h⟩ := Option.bind_eq_some_iff.mp h
  obtain ⟨fse8, e8⟩ := kO_ok e8
  obtain ⟨r6, e7, h⟩ := Option.bind_eq_some_iff.mp h
  replace h := xU_ok h
  obtain ⟨P5, rfl, h⟩ := h
  refine x_callV (c_X5_become hl e7) dX7_become_8 cw_X5_become wl_X7_89 wi_X5_become wse_X5_become rfl e8 (by decide) rfl (by omega) (by decide) rfl (Nat.le_of_ble_eq_true rfl) rfl (fun v9 P9 hq9 => ?_) (fun i9 P9 hq9 => by cases hq9)
  cases hq9
  refine x_aload_nr dX7_become_11 rfl ?_
  obtain ⟨v9, e10, h⟩ := Option.bind_eq_some_iff.mp h
  refine k_rA e10 dX7_become_12 f_X7_19 ?_
  refine x_aload_nr dX7_become_15 rfl ?_
  obtain ⟨v11, e12, h⟩ := Option.bind_eq_some_iff.mp h
  refine k_rA e12 dX7_become_16 f_X7_19 ?_
  obtain ⟨_, e16, h⟩ := Option.bind_eq_some_iff.mp h
  obtain ⟨fse16, e16⟩ := kO_ok e16
  obtain ⟨r14, e15, h⟩ := Option.bind_eq_some_iff.mp h
  replace h := xU_ok h
  obtain ⟨P13, rfl, h⟩ := h
  refine x_callV (c_X9_become hl e15) dX7_become_19 cw_X9_become wl_X7_92 wi_X9_become wse_X9_become rfl e16 (by decide) rfl (by omega) (by decide) rfl (Nat.le_of_ble_eq_true rfl) rfl (fun v9 P9 hq9 => ?_) (fun i9 P9 hq9 => by cases hq9)
  cases hq9
  refine x_aload_nr dX7_become_22 rfl ?_
  obtain ⟨v17, e18, h⟩ := Option.bind_eq_some_iff.mp h
  refine k_rA e18 dX7_become_23 f_X7_26 ?_
  refine x_aload_nr dX7_become_26 rfl ?_
  obtain ⟨v19, e20, h⟩ := Option.bind_eq_some_iff.mp h
  refine k_rA e20 dX7_become_27 f_X7_26 ?_
  obtain ⟨_, e24, h⟩ := Option.bind_eq_some_iff.mp h
  obtain ⟨fse24, e24⟩ := kO_ok e24
  obtain ⟨r22, e23, h⟩ := Option.bind_eq_some_iff.mp h
  replace h := xU_ok h
  obtain ⟨P21, rfl, h⟩ := h
  refine x_callV (c_X8_become hl e23) dX7_become_30 cw_X8_become wl_X7_95 wi_X8_become wse_X8_become rfl e24 (by decide) rfl (by omega) (by decide) rfl (Nat.le_of_ble_eq_true rfl) rfl (fun v9 P9 hq9 => ?_) (fun i9 P9 hq9 => by cases hq9)
  cases hq9
  refine x_aload_nr dX7_become_33 rfl ?_
  obtain ⟨v25, e26, h⟩ := Option.bind_eq_some_iff.mp h
  refine k_rA e26 dX7_become_34 f_X7_35 ?_
  refine x_aload_nr dX7_become_37 rfl ?_
  obtain ⟨v27, e28, h⟩ := Option.bind_eq_some_iff.mp h
  refine k_rA e28 dX7_become_38 f_X7_35 ?_
  obtain ⟨_, e32, h⟩ := Option.bind_eq_some_iff.mp h
  obtain ⟨fse32, e32⟩ := kO_ok e32
  obtain ⟨r30, e31, h⟩ := Option.bind_eq_some_iff.mp h
  replace h := xU_ok h
  obtain ⟨P29, rfl, h⟩ := h
  refine x_callV (c_X1_become hl e31) dX7_become_41 cw_X1_become wl_X7_70 wi_X1_become wse_X1_become rfl e32 (by decide) rfl (by omega) (by decide) rfl (Nat.le_of_ble_eq_true rfl) rfl (fun v9 P9 hq9 => ?_) (fun i9 P9 hq9 => by cases hq9)
  cases hq9
  refine x_aload_nr dX7_become_44 rfl ?_
  obtain ⟨v33, e34, h⟩ := Option.bind_eq_some_iff.mp h
  refine k_rA e34 dX7_become_45 f_X7_39 ?_
  refine x_aload_nr dX7_become_48 rfl ?_
  obtain ⟨v35, e36, h⟩ := Option.bind_eq_some_iff.mp h
  refine k_rA e36 dX7_become_49 f_X7_39 ?_
  obtain ⟨_, e40, h⟩ := Option.bind_eq_some_iff.mp h
  obtain ⟨fse40, e40⟩ := kO_ok e40
  obtain ⟨r38, e39, h⟩ := Option.bind_eq_some_iff.mp h
  replace h := xU_ok h
  obtain ⟨P37, rfl, h⟩ := h
  refine x_callV (c_X1_become hl e39) dX7_become_52 cw_X1_become wl_X7_70 wi_X1_become wse_X1_become rfl e40 (by decide) rfl (by omega) (by decide) rfl (Nat.le_of_ble_eq_true rfl) rfl (fun v9 P9 hq9 => ?_) (fun i9 P9 hq9 => by cases hq9)
  cases hq9
  refine x_aload_nr dX7_become_55 rfl ?_
  obtain ⟨v41, e42, h⟩ := Option.bind_eq_some_iff.mp h
  refine k_rA e42 dX7_become_56 f_X7_45 ?_
  refine x_aload_nr dX7_become_59 rfl ?_
  obtain ⟨v43, e44, h⟩ := Option.bind_eq_some_iff.mp h
  refine k_rA e44 dX7_become_60 f_X7_45 ?_
  obtain ⟨_, e48, h⟩ := Option.bind_eq_some_iff.mp h
  obtain ⟨fse48, e48⟩ := kO_ok e48
  obtain ⟨r46, e47, h⟩ := Option.bind_eq_some_iff.mp h
  replace h := xU_ok h
  obtain ⟨P45, rfl, h⟩ := h
  refine x_callV (c_X4_become hl e47) dX7_become_63 cw_X4_become wl_X7_98 wi_X4_become wse_X4_become rfl e48 (by decide) rfl (by omega) (by decide) rfl (Nat.le_of_ble_eq_true rfl) rfl (fun v9 P9 hq9 => ?_) (fun i9 P9 hq9 => by cases hq9)
  cases hq9
  refine x_aload_nr dX7_become_66 rfl ?_
  obtain ⟨v49, e50, h⟩ := Option.bind_eq_some_iff.mp h
  refine k_rA e50 dX7_become_67 f_X7_52 ?_
  refine x_aload_nr dX7_become_70 rfl ?_
  obtain ⟨v51, e52, h⟩ := Option.bind_eq_some_iff.mp h
  refine k_rA e52 dX7_become_71 f_X7_52 ?_
  obtain ⟨_, e56, h⟩ := Option.bind_eq_some_iff.mp h
  obtain ⟨fse56, e56⟩ := kO_ok e56
  obtain ⟨r54, e55, h⟩ := Option.bind_eq_some_iff.mp h
  replace h := xU_ok h
  obtain ⟨P53, rfl, h⟩ := h
  refine x_callV (c_X2_become hl e55) dX7_become_74 cw_X2_become wl_X7_101 wi_X2_become wse_X2_become rfl e56 (by decide) rfl (by omega) (by decide) rfl (Nat.le_of_ble_eq_true rfl) rfl (fun v9 P9 hq9 => ?_) (fun i9 P9 hq9 => by cases hq9)
  cases hq9
  refine x_aload_nr dX7_become_77 rfl ?_
  obtain ⟨v57, e58, h⟩ := Option.bind_eq_some_iff.mp h
  refine k_rA e58 dX7_become_78 f_X7_59 ?_
  refine x_aload_nr dX7_become_81 rfl ?_
  obtain ⟨v59, e60, h⟩ := Option.bind_eq_some_iff.mp h
  refine k_rA e60 dX7_become_82 f_X7_59 ?_
  obtain ⟨_, e64, h⟩ := Option.bind_eq_some_iff.mp h
  obtain ⟨fse64, e64⟩ := kO_ok e64
  obtain ⟨r62, e63, h⟩ := Option.bind_eq_some_iff.mp h
  replace h := xU_ok h
  obtain ⟨P61, rfl, h⟩ := h
  refine x_callV (c_X0_become hl e63) dX7_become_85 cw_X0_become wl_X7_104 wi_X0_become wse_X0_become rfl e64 (by decide) rfl (by omega) (by decide) rfl (Nat.le_of_ble_eq_true rfl) rfl (fun v9 P9 hq9 => ?_) (fun i9 P9 hq9 => by cases hq9)
  cases hq9
  refine x_aload_nr dX7_become_88 rfl ?_
  refine x_aload_nr dX7_become_89 rfl ?_
  obtain ⟨v65, e66, h⟩ := Option.bind_eq_some_iff.mp h
  refine k_rI e66 dX7_become_90 f_X7_63 ?_
  obtain ⟨P67, e68, h⟩ := Option.bind_eq_some_iff.mp h
  refine k_wI e68 dX7_become_93 f_X7_63 (Or.inl (by decide)) rfl ?_
  refine x_aload_nr dX7_become_96 rfl ?_
  refine x_aload_nr dX7_become_97 rfl ?_
  obtain ⟨v69, e70, h⟩ := Option.bind_eq_some_iff.mp h
  refine k_rI e70 dX7_become_98 f_X7_86 ?_
  obtain ⟨P71, e72, h⟩ := Option.bind_eq_some_iff.mp h
  refine k_wI e72 dX7_become_101 f_X7_86 (Or.inl (by decide)) rfl ?_
  cases h
  exact x_ret rfl dX7_become_104 hQ
theorem s_X7_become {G : xG} {l : Launch} (hl : l.stackTraces = false) : ∀ n pc env P z, f_X7_become n pc env P = some z → ∀ L st, lay_X7_become pc env = some (L, st) → ∀ Q : xR → xH → Prop, Q z.1 z.2 → Wp G l 10 mX7_become pc L st P Q := by
  intro n
  induction n with
  | zero => intro pc env P z h; cases h
  | succ n ih =>
    intro pc env P z h L st hlay Q hQ
    unfold f_X7_become at h
    split at h
    · cases hlay
      exact t_X7_become_0 hl ih h hQ
    · cases h
theorem c_X7_become {G : xG} {l : Launch} (hl : l.stackTraces = false) {n : Nat} {as : List Value} {P : xH} {z : xR × xH} (h : f_X7_become n 0 as P = some z) : Ct G l 10 mX7_become as P (fun r P1 => (r, P1) = z) := by
  cases n with
  | zero => cases h
  | succ n =>
    unfold f_X7_become at h
    split at h
    · exact Ct.of hl (by decide +kernel) wc_X7_become (Nat.le_of_ble_eq_true rfl) (t_X7_become_0 hl (s_X7_become hl _) h rfl)
    all_goals first | (cases h; done) | (rename_i q9 _; exact absurd q9 (by decide)) | (rename_i q9; exact absurd q9 (by decide)) | contradiction
/-! QuakeNet.image()V -/
def b_X10_image_0 (n : Nat) (rec : Nat → List Value → xH → xO) (a0 : Nat) (P : xH) : xO :=
  (rV P a0 10 4).bind fun v1 =>
  match v1 with
  | .ref r10 =>
    rec 18 [.ref a0] P
  | .null =>
    (nO P 7).bind fun P3 =>
    (f_X7_init n 0 [.ref P.1] P3).bind fun r6 => xU r6 fun P5 =>
    (wV P5 a0 10 4 (.ref P.1)).bind fun P8 =>
    rec 18 [.ref a0] P8
  | _ => none
def b_X10_image_18 (n : Nat) (rec : Nat → List Value → xH → xO) (a0 : Nat) (P : xH) : xO :=
  (rA P a0 10 4).bind fun v1 =>
  (rA P a0 10 1).bind fun v3 =>
  (kO P v1 7).bind fun _ =>
  (f_X7_become n 0 [.ref v1, .ref v3] P).bind fun r6 => xU r6 fun P5 =>
  some (.inl none, P5)
def lay_X10_image : Nat → List Value → Option (xL × List Value)
  | 0, [a0] => some ([some a0], [])
  | 18, [a0] => some ([some a0], [])
  | _, _ => none
def f_X10_image : Nat → Nat → List Value → xH → xO
  | 0 => fun _ _ _ => none
  | n + 1 => fun pc env P => match pc, env with
    | 0, [.ref a0] => b_X10_image_0 n (f_X10_image n) a0 P
    | 18, [.ref a0] => b_X10_image_18 n (f_X10_image n) a0 P
    | _, _ => none
set_option maxHeartbeats 2000000 in
set_option maxRecDepth 20000 in
theorem t_X10_image_0 {G : xG} {l : Launch} (hl : l.stackTraces = false) {n : Nat} {rec : Nat → List Value → xH → xO} (hrec : ∀ pc env P z, rec pc env P = some z → ∀ L st, lay_X10_image pc env = some (L, st) → ∀ Q : xR → xH → Prop, Q z.1 z.2 → Wp G l 11 mX10_image pc L st P Q) {a0} {P : xH} {z : xR × xH} (h : b_X10_image_0 n rec a0 P = some z) {Q : xR → xH → Prop} (hQ : Q z.1 z.2) : Wp G l 11 mX10_image 0 [some (.ref a0)] [] P Q := by
  unfold b_X10_image_0 at h
  refine x_aload_nr dX10_image_0 rfl ?_
  obtain ⟨v1, e2, h⟩ := Option.bind_eq_some_iff.mp h
  refine k_rV e2 dX10_image_1 f_X10_329 ?_
  cases v1 with
  | ref r10 =>
    refine x_ifnonnull 18 dX10_image_4 (by decide) ?_
    exact Wp.mask [true] (hrec 18 _ _ _ h _ _ rfl _ hQ)
  | null =>
    refine x_ifnonnullN dX10_image_4 ?_
    refine x_aload_nr dX10_image_7 rfl ?_
    obtain ⟨P3, e4, h⟩ := Option.bind_eq_some_iff.mp h
    refine k_nO e4 (by decide) dX10_image_8 wk_X10_16 wins_X7 wini_X7 xok_7 ?_
    refine x_dup dX10_image_11 rfl ?_
    obtain ⟨r6, e7, h⟩ := Option.bind_eq_some_iff.mp h
    replace h := xU_ok h
    obtain ⟨P5, rfl, h⟩ := h
    refine x_callIN (c_X7_init hl e7) dX10_image_12 cw_X7_init rfl rfl wn_X10_18 wi_X7_init rfl (by omega) (by decide) rfl (Nat.le_of_ble_eq_true rfl) (fun i9 P9 hq9 => by cases hq9) (fun v9 P9 hq9 => ?_)
    cases hq9
    obtain ⟨P8, e9, h⟩ := Option.bind_eq_some_iff.mp h
    refine k_wA e9 dX10_image_15 f_X10_329 (Or.inl (by decide)) rfl ?_
    exact Wp.mask [true] (hrec 18 _ _ _ h _ _ rfl _ hQ)
  | _ => cases h
set_option maxHeartbeats 2000000 in
set_option maxRecDepth 20000 in
theorem t_X10_image_18 {G : xG} {l : Launch} (hl : l.stackTraces = false) {n : Nat} {rec : Nat → List Value → xH → xO} (hrec : ∀ pc env P z, rec pc env P = some z → ∀ L st, lay_X10_image pc env = some (L, st) → ∀ Q : xR → xH → Prop, Q z.1 z.2 → Wp G l 11 mX10_image pc L st P Q) {a0} {P : xH} {z : xR × xH} (h : b_X10_image_18 n rec a0 P = some z) {Q : xR → xH → Prop} (hQ : Q z.1 z.2) : Wp G l 11 mX10_image 18 [some (.ref a0)] [] P Q := by
  unfold b_X10_image_18 at h
  refine x_aload_nr dX10_image_18 rfl ?_
  obtain ⟨v1, e2, h⟩ := Option.bind_eq_some_iff.mp h
  refine k_rA e2 dX10_image_19 f_X10_329 ?_
  refine x_aload_nr dX10_image_22 rfl ?_
  obtain ⟨v3, e4, h⟩ := Option.bind_eq_some_iff.mp h
  refine k_rA e4 dX10_image_23 f_X10_19 ?_
  obtain ⟨_, e8, h⟩ := Option.bind_eq_some_iff.mp h
  obtain ⟨fse8, e8⟩ := kO_ok e8
  obtain ⟨r6, e7, h⟩ := Option.bind_eq_some_iff.mp h
  replace h := xU_ok h
  obtain ⟨P5, rfl, h⟩ := h
  refine x_callV (c_X7_become hl e7) dX10_image_26 cw_X7_become wl_X10_332 wi_X7_become wse_X7_become rfl e8 (by decide) rfl (by omega) (by decide) rfl (Nat.le_of_ble_eq_true rfl) rfl (fun v9 P9 hq9 => ?_) (fun i9 P9 hq9 => by cases hq9)
  cases hq9
  cases h
  exact x_ret rfl dX10_image_29 hQ
theorem s_X10_image {G : xG} {l : Launch} (hl : l.stackTraces = false) : ∀ n pc env P z, f_X10_image n pc env P = some z → ∀ L st, lay_X10_image pc env = some (L, st) → ∀ Q : xR → xH → Prop, Q z.1 z.2 → Wp G l 11 mX10_image pc L st P Q := by
  intro n
  induction n with
  | zero => intro pc env P z h; cases h
  | succ n ih =>
    intro pc env P z h L st hlay Q hQ
    unfold f_X10_image at h
    split at h
    · cases hlay
      exact t_X10_image_0 hl ih h hQ
    · cases hlay
      exact t_X10_image_18 hl ih h hQ
    · cases h
theorem c_X10_image {G : xG} {l : Launch} (hl : l.stackTraces = false) {n : Nat} {as : List Value} {P : xH} {z : xR × xH} (h : f_X10_image n 0 as P = some z) : Ct G l 11 mX10_image as P (fun r P1 => (r, P1) = z) := by
  cases n with
  | zero => cases h
  | succ n =>
    unfold f_X10_image at h
    split at h
    · exact Ct.of hl (by decide +kernel) wc_X10_image (Nat.le_of_ble_eq_true rfl) (t_X10_image_0 hl (s_X10_image hl _) h rfl)
    all_goals first | (cases h; done) | (rename_i q9 _; exact absurd q9 (by decide)) | (rename_i q9; exact absurd q9 (by decide)) | contradiction
/-! QuakeNet.back()Z -/
def b_X10_back_0 (n : Nat) (rec : Nat → List Value → xH → xO) (a0 : Nat) (P : xH) : xO :=
  (rV P a0 10 4).bind fun v1 =>
  match v1 with
  | .ref r11 =>
    (rA P a0 10 1).bind fun v3 =>
    (rA P a0 10 4).bind fun v5 =>
    (kO P v3 7).bind fun _ =>
    (f_X7_become n 0 [.ref v3, .ref v5] P).bind fun r8 => xU r8 fun P7 =>
    some (.inl (some (.int 1)), P7)
  | .null =>
    some (.inl (some (.int 0)), P)
  | _ => none
def lay_X10_back : Nat → List Value → Option (xL × List Value)
  | 0, [a0] => some ([some a0], [])
  | _, _ => none
def f_X10_back : Nat → Nat → List Value → xH → xO
  | 0 => fun _ _ _ => none
  | n + 1 => fun pc env P => match pc, env with
    | 0, [.ref a0] => b_X10_back_0 n (f_X10_back n) a0 P
    | _, _ => none
set_option maxHeartbeats 2000000 in
set_option maxRecDepth 20000 in
theorem t_X10_back_0 {G : xG} {l : Launch} (hl : l.stackTraces = false) {n : Nat} {rec : Nat → List Value → xH → xO} (hrec : ∀ pc env P z, rec pc env P = some z → ∀ L st, lay_X10_back pc env = some (L, st) → ∀ Q : xR → xH → Prop, Q z.1 z.2 → Wp G l 11 mX10_back pc L st P Q) {a0} {P : xH} {z : xR × xH} (h : b_X10_back_0 n rec a0 P = some z) {Q : xR → xH → Prop} (hQ : Q z.1 z.2) : Wp G l 11 mX10_back 0 [some (.ref a0)] [] P Q := by
  unfold b_X10_back_0 at h
  refine x_aload_nr dX10_back_0 rfl ?_
  obtain ⟨v1, e2, h⟩ := Option.bind_eq_some_iff.mp h
  refine k_rV e2 dX10_back_1 f_X10_329 ?_
  cases v1 with
  | ref r11 =>
    refine x_ifnonnull 9 dX10_back_4 (by decide) ?_
    refine x_aload_nr dX10_back_9 rfl ?_
    obtain ⟨v3, e4, h⟩ := Option.bind_eq_some_iff.mp h
    refine k_rA e4 dX10_back_10 f_X10_19 ?_
    refine x_aload_nr dX10_back_13 rfl ?_
    obtain ⟨v5, e6, h⟩ := Option.bind_eq_some_iff.mp h
    refine k_rA e6 dX10_back_14 f_X10_329 ?_
    obtain ⟨_, e10, h⟩ := Option.bind_eq_some_iff.mp h
    obtain ⟨fse10, e10⟩ := kO_ok e10
    obtain ⟨r8, e9, h⟩ := Option.bind_eq_some_iff.mp h
    replace h := xU_ok h
    obtain ⟨P7, rfl, h⟩ := h
    refine x_callV (c_X7_become hl e9) dX10_back_17 cw_X7_become wl_X10_332 wi_X7_become wse_X7_become rfl e10 (by decide) rfl (by omega) (by decide) rfl (Nat.le_of_ble_eq_true rfl) rfl (fun v9 P9 hq9 => ?_) (fun i9 P9 hq9 => by cases hq9)
    cases hq9
    refine x_iconst 1 dX10_back_20 (by decide) ?_
    cases h
    exact x_iret .boolean rfl rfl dX10_back_21 hQ
  | null =>
    refine x_ifnonnullN dX10_back_4 ?_
    refine x_iconst 0 dX10_back_7 (by decide) ?_
    cases h
    exact x_iret .boolean rfl rfl dX10_back_8 hQ
  | _ => cases h
theorem s_X10_back {G : xG} {l : Launch} (hl : l.stackTraces = false) : ∀ n pc env P z, f_X10_back n pc env P = some z → ∀ L st, lay_X10_back pc env = some (L, st) → ∀ Q : xR → xH → Prop, Q z.1 z.2 → Wp G l 11 mX10_back pc L st P Q := by
  intro n
  induction n with
  | zero => intro pc env P z h; cases h
  | succ n ih =>
    intro pc env P z h L st hlay Q hQ
    unfold f_X10_back at h
    split at h
    · cases hlay
      exact t_X10_back_0 hl ih h hQ
    · cases h
theorem c_X10_back {G : xG} {l : Launch} (hl : l.stackTraces = false) {n : Nat} {as : List Value} {P : xH} {z : xR × xH} (h : f_X10_back n 0 as P = some z) : Ct G l 11 mX10_back as P (fun r P1 => (r, P1) = z) := by
  cases n with
  | zero => cases h
  | succ n =>
    unfold f_X10_back at h
    split at h
    · exact Ct.of hl (by decide +kernel) wc_X10_back (Nat.le_of_ble_eq_true rfl) (t_X10_back_0 hl (s_X10_back hl _) h rfl)
    all_goals first | (cases h; done) | (rename_i q9 _; exact absurd q9 (by decide)) | (rename_i q9; exact absurd q9 (by decide)) | contradiction
/-! QuakeNet$Net.total(I)I -/
def b_X1_total_0 (n : Nat) (rec : Nat → List Value → xH → xO) (a0 : Nat) (a1 : Int32) (P : xH) : xO :=
  rec 4 [.ref a0, .int a1, .int 0, .int 0] P
def b_X1_total_4 (n : Nat) (rec : Nat → List Value → xH → xO) (a0 : Nat) (a1 : Int32) (a2 : Int32) (a3 : Int32) (P : xH) : xO :=
  (rI P a0 1 3).bind fun v1 =>
  if v1 ≤ a3 then
    some (.inl (some (.int a2)), P)
  else
    (rA P a0 1 5).bind fun v3 =>
    (aA P v3 a1).bind fun v5 =>
    (aI P v5 a3).bind fun v7 =>
    rec 4 [.ref a0, .int a1, .int ((a2 + v7)), .int ((a3 + 1))] P
def lay_X1_total : Nat → List Value → Option (xL × List Value)
  | 0, [a0, a1] => some ([some a0, some a1, none, none], [])
  | 4, [a0, a1, a2, a3] => some ([some a0, some a1, some a2, some a3], [])
  | _, _ => none
def f_X1_total : Nat → Nat → List Value → xH → xO
  | 0 => fun _ _ _ => none
  | n + 1 => fun pc env P => match pc, env with
    | 0, [.ref a0, .int a1] => b_X1_total_0 n (f_X1_total n) a0 a1 P
    | 4, [.ref a0, .int a1, .int a2, .int a3] => b_X1_total_4 n (f_X1_total n) a0 a1 a2 a3 P
    | _, _ => none
set_option maxHeartbeats 2000000 in
set_option maxRecDepth 20000 in
theorem t_X1_total_0 {G : xG} {l : Launch} (hl : l.stackTraces = false) {n : Nat} {rec : Nat → List Value → xH → xO} (hrec : ∀ pc env P z, rec pc env P = some z → ∀ L st, lay_X1_total pc env = some (L, st) → ∀ Q : xR → xH → Prop, Q z.1 z.2 → Wp G l 3 mX1_total pc L st P Q) {a0 a1} {P : xH} {z : xR × xH} (h : b_X1_total_0 n rec a0 a1 P = some z) {Q : xR → xH → Prop} (hQ : Q z.1 z.2) : Wp G l 3 mX1_total 0 [some (.ref a0), some (.int a1), none, none] [] P Q := by
  unfold b_X1_total_0 at h
  refine x_iconst 0 dX1_total_0 (by decide) ?_
  refine x_istore_n dX1_total_1 (Nat.le_of_ble_eq_true rfl) ?_
  refine x_iconst 0 dX1_total_2 (by decide) ?_
  refine x_istore_n dX1_total_3 (Nat.le_of_ble_eq_true rfl) ?_
  exact Wp.mask [true, true, true, true] (hrec 4 _ _ _ h _ _ rfl _ hQ)
set_option maxHeartbeats 2000000 in
set_option maxRecDepth 20000 in
theorem t_X1_total_4 {G : xG} {l : Launch} (hl : l.stackTraces = false) {n : Nat} {rec : Nat → List Value → xH → xO} (hrec : ∀ pc env P z, rec pc env P = some z → ∀ L st, lay_X1_total pc env = some (L, st) → ∀ Q : xR → xH → Prop, Q z.1 z.2 → Wp G l 3 mX1_total pc L st P Q) {a0 a1 a2 a3} {P : xH} {z : xR × xH} (h : b_X1_total_4 n rec a0 a1 a2 a3 P = some z) {Q : xR → xH → Prop} (hQ : Q z.1 z.2) : Wp G l 3 mX1_total 4 [some (.ref a0), some (.int a1), some (.int a2), some (.int a3)] [] P Q := by
  unfold b_X1_total_4 at h
  refine x_iload_n dX1_total_4 rfl ?_
  refine x_aload_nr dX1_total_5 rfl ?_
  obtain ⟨v1, e2, h⟩ := Option.bind_eq_some_iff.mp h
  refine k_rI e2 dX1_total_6 f_X1_60 ?_
  refine x_icmp_ge 29 dX1_total_9 (by decide) (fun q9 => ?_) (fun q9 => ?_)
  · rw [if_pos q9] at h
    refine x_iload_n dX1_total_29 rfl ?_
    cases h
    exact x_iret .int rfl rfl dX1_total_30 hQ
  · rw [if_neg q9] at h
    refine x_iload_n dX1_total_12 rfl ?_
    refine x_aload_nr dX1_total_13 rfl ?_
    obtain ⟨v3, e4, h⟩ := Option.bind_eq_some_iff.mp h
    refine k_rA e4 dX1_total_14 f_X1_13 ?_
    refine x_iload_n dX1_total_17 rfl ?_
    obtain ⟨v5, e6, h⟩ := Option.bind_eq_some_iff.mp h
    refine k_aA e6 dX1_total_18 ?_
    refine x_iload_n dX1_total_19 rfl ?_
    obtain ⟨v7, e8, h⟩ := Option.bind_eq_some_iff.mp h
    refine k_aI e8 dX1_total_20 ?_
    refine x_iadd dX1_total_21 ?_
    refine x_istore_n dX1_total_22 (Nat.le_of_ble_eq_true rfl) ?_
    refine x_iinc (a3 + 1) dX1_total_23 rfl (by rfl) ?_
    refine x_goto 4 dX1_total_26 (by decide) ?_
    exact Wp.mask [true, true, true, true] (hrec 4 _ _ _ h _ _ rfl _ hQ)
theorem s_X1_total {G : xG} {l : Launch} (hl : l.stackTraces = false) : ∀ n pc env P z, f_X1_total n pc env P = some z → ∀ L st, lay_X1_total pc env = some (L, st) → ∀ Q : xR → xH → Prop, Q z.1 z.2 → Wp G l 3 mX1_total pc L st P Q := by
  intro n
  induction n with
  | zero => intro pc env P z h; cases h
  | succ n ih =>
    intro pc env P z h L st hlay Q hQ
    unfold f_X1_total at h
    split at h
    · cases hlay
      exact t_X1_total_0 hl ih h hQ
    · cases hlay
      exact t_X1_total_4 hl ih h hQ
    · cases h
theorem c_X1_total {G : xG} {l : Launch} (hl : l.stackTraces = false) {n : Nat} {as : List Value} {P : xH} {z : xR × xH} (h : f_X1_total n 0 as P = some z) : Ct G l 3 mX1_total as P (fun r P1 => (r, P1) = z) := by
  cases n with
  | zero => cases h
  | succ n =>
    unfold f_X1_total at h
    split at h
    · exact Ct.of hl (by decide +kernel) wc_X1_total (Nat.le_of_ble_eq_true rfl) (t_X1_total_0 hl (s_X1_total hl _) h rfl)
    all_goals first | (cases h; done) | (rename_i q9 _; exact absurd q9 (by decide)) | (rename_i q9; exact absurd q9 (by decide)) | contradiction
/-! QuakeNet$Net.wordsHad()I -/
def b_X1_wordsHad_0 (n : Nat) (rec : Nat → List Value → xH → xO) (a0 : Nat) (P : xH) : xO :=
  rec 4 [.ref a0, .int 0, .int 0] P
def b_X1_wordsHad_4 (n : Nat) (rec : Nat → List Value → xH → xO) (a0 : Nat) (a1 : Int32) (a2 : Int32) (P : xH) : xO :=
  (rI P a0 1 4).bind fun v1 =>
  if v1 ≤ a2 then
    some (.inl (some (.int a1)), P)
  else
    (rA P a0 1 10).bind fun v3 =>
    (aI P v3 a2).bind fun v5 =>
    if v5 = ((-1)) then
      rec 4 [.ref a0, .int ((a1 + 0)), .int ((a2 + 1))] P
    else
      rec 4 [.ref a0, .int ((a1 + 1)), .int ((a2 + 1))] P
def lay_X1_wordsHad : Nat → List Value → Option (xL × List Value)
  | 0, [a0] => some ([some a0, none, none], [])
  | 4, [a0, a1, a2] => some ([some a0, some a1, some a2], [])
  | _, _ => none
def f_X1_wordsHad : Nat → Nat → List Value → xH → xO
  | 0 => fun _ _ _ => none
  | n + 1 => fun pc env P => match pc, env with
    | 0, [.ref a0] => b_X1_wordsHad_0 n (f_X1_wordsHad n) a0 P
    | 4, [.ref a0, .int a1, .int a2] => b_X1_wordsHad_4 n (f_X1_wordsHad n) a0 a1 a2 P
    | _, _ => none
set_option maxHeartbeats 2000000 in
set_option maxRecDepth 20000 in
theorem t_X1_wordsHad_0 {G : xG} {l : Launch} (hl : l.stackTraces = false) {n : Nat} {rec : Nat → List Value → xH → xO} (hrec : ∀ pc env P z, rec pc env P = some z → ∀ L st, lay_X1_wordsHad pc env = some (L, st) → ∀ Q : xR → xH → Prop, Q z.1 z.2 → Wp G l 3 mX1_wordsHad pc L st P Q) {a0} {P : xH} {z : xR × xH} (h : b_X1_wordsHad_0 n rec a0 P = some z) {Q : xR → xH → Prop} (hQ : Q z.1 z.2) : Wp G l 3 mX1_wordsHad 0 [some (.ref a0), none, none] [] P Q := by
  unfold b_X1_wordsHad_0 at h
  refine x_iconst 0 dX1_wordsHad_0 (by decide) ?_
  refine x_istore_n dX1_wordsHad_1 (Nat.le_of_ble_eq_true rfl) ?_
  refine x_iconst 0 dX1_wordsHad_2 (by decide) ?_
  refine x_istore_n dX1_wordsHad_3 (Nat.le_of_ble_eq_true rfl) ?_
  exact Wp.mask [true, true, true] (hrec 4 _ _ _ h _ _ rfl _ hQ)
set_option maxHeartbeats 2000000 in
set_option maxRecDepth 20000 in
theorem t_X1_wordsHad_4 {G : xG} {l : Launch} (hl : l.stackTraces = false) {n : Nat} {rec : Nat → List Value → xH → xO} (hrec : ∀ pc env P z, rec pc env P = some z → ∀ L st, lay_X1_wordsHad pc env = some (L, st) → ∀ Q : xR → xH → Prop, Q z.1 z.2 → Wp G l 3 mX1_wordsHad pc L st P Q) {a0 a1 a2} {P : xH} {z : xR × xH} (h : b_X1_wordsHad_4 n rec a0 a1 a2 P = some z) {Q : xR → xH → Prop} (hQ : Q z.1 z.2) : Wp G l 3 mX1_wordsHad 4 [some (.ref a0), some (.int a1), some (.int a2)] [] P Q := by
  unfold b_X1_wordsHad_4 at h
  refine x_iload_n dX1_wordsHad_4 rfl ?_
  refine x_aload_nr dX1_wordsHad_5 rfl ?_
  obtain ⟨v1, e2, h⟩ := Option.bind_eq_some_iff.mp h
  refine k_rI e2 dX1_wordsHad_6 f_X1_63 ?_
  refine x_icmp_ge 36 dX1_wordsHad_9 (by decide) (fun q8 => ?_) (fun q8 => ?_)
  · rw [if_pos q8] at h
    refine x_iload_n dX1_wordsHad_36 rfl ?_
    cases h
    exact x_iret .int rfl rfl dX1_wordsHad_37 hQ
  · rw [if_neg q8] at h
    refine x_iload_n dX1_wordsHad_12 rfl ?_
    refine x_aload_nr dX1_wordsHad_13 rfl ?_
    obtain ⟨v3, e4, h⟩ := Option.bind_eq_some_iff.mp h
    refine k_rA e4 dX1_wordsHad_14 f_X1_30 ?_
    refine x_iload_n dX1_wordsHad_17 rfl ?_
    obtain ⟨v5, e6, h⟩ := Option.bind_eq_some_iff.mp h
    refine k_aI e6 dX1_wordsHad_18 ?_
    refine x_iconst (-1) dX1_wordsHad_19 (by decide) ?_
    refine x_icmp_eq 27 dX1_wordsHad_20 (by decide) (fun q7 => ?_) (fun q7 => ?_)
    · rw [if_pos q7] at h
      refine x_iconst 0 dX1_wordsHad_27 (by decide) ?_
      refine x_iadd dX1_wordsHad_28 ?_
      refine x_istore_n dX1_wordsHad_29 (Nat.le_of_ble_eq_true rfl) ?_
      refine x_iinc (a2 + 1) dX1_wordsHad_30 rfl (by rfl) ?_
      refine x_goto 4 dX1_wordsHad_33 (by decide) ?_
      exact Wp.mask [true, true, true] (hrec 4 _ _ _ h _ _ rfl _ hQ)
    · rw [if_neg q7] at h
      refine x_iconst 1 dX1_wordsHad_23 (by decide) ?_
      refine x_goto 28 dX1_wordsHad_24 (by decide) ?_
      refine x_iadd dX1_wordsHad_28 ?_
      refine x_istore_n dX1_wordsHad_29 (Nat.le_of_ble_eq_true rfl) ?_
      refine x_iinc (a2 + 1) dX1_wordsHad_30 rfl (by rfl) ?_
      refine x_goto 4 dX1_wordsHad_33 (by decide) ?_
      exact Wp.mask [true, true, true] (hrec 4 _ _ _ h _ _ rfl _ hQ)
theorem s_X1_wordsHad {G : xG} {l : Launch} (hl : l.stackTraces = false) : ∀ n pc env P z, f_X1_wordsHad n pc env P = some z → ∀ L st, lay_X1_wordsHad pc env = some (L, st) → ∀ Q : xR → xH → Prop, Q z.1 z.2 → Wp G l 3 mX1_wordsHad pc L st P Q := by
  intro n
  induction n with
  | zero => intro pc env P z h; cases h
  | succ n ih =>
    intro pc env P z h L st hlay Q hQ
    unfold f_X1_wordsHad at h
    split at h
    · cases hlay
      exact t_X1_wordsHad_0 hl ih h hQ
    · cases hlay
      exact t_X1_wordsHad_4 hl ih h hQ
    · cases h
theorem c_X1_wordsHad {G : xG} {l : Launch} (hl : l.stackTraces = false) {n : Nat} {as : List Value} {P : xH} {z : xR × xH} (h : f_X1_wordsHad n 0 as P = some z) : Ct G l 3 mX1_wordsHad as P (fun r P1 => (r, P1) = z) := by
  cases n with
  | zero => cases h
  | succ n =>
    unfold f_X1_wordsHad at h
    split at h
    · exact Ct.of hl (by decide +kernel) wc_X1_wordsHad (Nat.le_of_ble_eq_true rfl) (t_X1_wordsHad_0 hl (s_X1_wordsHad hl _) h rfl)
    all_goals first | (cases h; done) | (rename_i q9 _; exact absurd q9 (by decide)) | (rename_i q9; exact absurd q9 (by decide)) | contradiction
/-! QuakeNet$Walks.lotsThatMove()I -/
def b_X8_lotsThatMove_0 (n : Nat) (rec : Nat → List Value → xH → xO) (a0 : Nat) (P : xH) : xO :=
  rec 4 [.ref a0, .int 0, .int 0] P
def b_X8_lotsThatMove_4 (n : Nat) (rec : Nat → List Value → xH → xO) (a0 : Nat) (a1 : Int32) (a2 : Int32) (P : xH) : xO :=
  if 4 ≤ a2 then
    some (.inl (some (.int a1)), P)
  else
    (rA P a0 8 3).bind fun v1 =>
    (aI P v1 a2).bind fun v3 =>
    if v3 ≤ 0 then
      rec 4 [.ref a0, .int ((a1 + 0)), .int ((a2 + 1))] P
    else
      rec 4 [.ref a0, .int ((a1 + 1)), .int ((a2 + 1))] P
def lay_X8_lotsThatMove : Nat → List Value → Option (xL × List Value)
  | 0, [a0] => some ([some a0, none, none], [])
  | 4, [a0, a1, a2] => some ([some a0, some a1, some a2], [])
  | _, _ => none
def f_X8_lotsThatMove : Nat → Nat → List Value → xH → xO
  | 0 => fun _ _ _ => none
  | n + 1 => fun pc env P => match pc, env with
    | 0, [.ref a0] => b_X8_lotsThatMove_0 n (f_X8_lotsThatMove n) a0 P
    | 4, [.ref a0, .int a1, .int a2] => b_X8_lotsThatMove_4 n (f_X8_lotsThatMove n) a0 a1 a2 P
    | _, _ => none
set_option maxHeartbeats 2000000 in
set_option maxRecDepth 20000 in
theorem t_X8_lotsThatMove_0 {G : xG} {l : Launch} (hl : l.stackTraces = false) {n : Nat} {rec : Nat → List Value → xH → xO} (hrec : ∀ pc env P z, rec pc env P = some z → ∀ L st, lay_X8_lotsThatMove pc env = some (L, st) → ∀ Q : xR → xH → Prop, Q z.1 z.2 → Wp G l 3 mX8_lotsThatMove pc L st P Q) {a0} {P : xH} {z : xR × xH} (h : b_X8_lotsThatMove_0 n rec a0 P = some z) {Q : xR → xH → Prop} (hQ : Q z.1 z.2) : Wp G l 3 mX8_lotsThatMove 0 [some (.ref a0), none, none] [] P Q := by
  unfold b_X8_lotsThatMove_0 at h
  refine x_iconst 0 dX8_lotsThatMove_0 (by decide) ?_
  refine x_istore_n dX8_lotsThatMove_1 (Nat.le_of_ble_eq_true rfl) ?_
  refine x_iconst 0 dX8_lotsThatMove_2 (by decide) ?_
  refine x_istore_n dX8_lotsThatMove_3 (Nat.le_of_ble_eq_true rfl) ?_
  exact Wp.mask [true, true, true] (hrec 4 _ _ _ h _ _ rfl _ hQ)
set_option maxHeartbeats 2000000 in
set_option maxRecDepth 20000 in
theorem t_X8_lotsThatMove_4 {G : xG} {l : Launch} (hl : l.stackTraces = false) {n : Nat} {rec : Nat → List Value → xH → xO} (hrec : ∀ pc env P z, rec pc env P = some z → ∀ L st, lay_X8_lotsThatMove pc env = some (L, st) → ∀ Q : xR → xH → Prop, Q z.1 z.2 → Wp G l 3 mX8_lotsThatMove pc L st P Q) {a0 a1 a2} {P : xH} {z : xR × xH} (h : b_X8_lotsThatMove_4 n rec a0 a1 a2 P = some z) {Q : xR → xH → Prop} (hQ : Q z.1 z.2) : Wp G l 3 mX8_lotsThatMove 4 [some (.ref a0), some (.int a1), some (.int a2)] [] P Q := by
  unfold b_X8_lotsThatMove_4 at h
  refine x_iload_n dX8_lotsThatMove_4 rfl ?_
  refine x_iconst 4 dX8_lotsThatMove_5 (by decide) ?_
  refine x_icmp_ge 32 dX8_lotsThatMove_6 (by decide) (fun q6 => ?_) (fun q6 => ?_)
  · rw [if_pos q6] at h
    refine x_iload_n dX8_lotsThatMove_32 rfl ?_
    cases h
    exact x_iret .int rfl rfl dX8_lotsThatMove_33 hQ
  · rw [if_neg q6] at h
    refine x_iload_n dX8_lotsThatMove_9 rfl ?_
    refine x_aload_nr dX8_lotsThatMove_10 rfl ?_
    obtain ⟨v1, e2, h⟩ := Option.bind_eq_some_iff.mp h
    refine k_rA e2 dX8_lotsThatMove_11 f_X8_22 ?_
    refine x_iload_n dX8_lotsThatMove_14 rfl ?_
    obtain ⟨v3, e4, h⟩ := Option.bind_eq_some_iff.mp h
    refine k_aI e4 dX8_lotsThatMove_15 ?_
    refine x_if_le 23 dX8_lotsThatMove_16 (by decide) (fun q5 => ?_) (fun q5 => ?_)
    · rw [if_pos q5] at h
      refine x_iconst 0 dX8_lotsThatMove_23 (by decide) ?_
      refine x_iadd dX8_lotsThatMove_24 ?_
      refine x_istore_n dX8_lotsThatMove_25 (Nat.le_of_ble_eq_true rfl) ?_
      refine x_iinc (a2 + 1) dX8_lotsThatMove_26 rfl (by rfl) ?_
      refine x_goto 4 dX8_lotsThatMove_29 (by decide) ?_
      exact Wp.mask [true, true, true] (hrec 4 _ _ _ h _ _ rfl _ hQ)
    · rw [if_neg q5] at h
      refine x_iconst 1 dX8_lotsThatMove_19 (by decide) ?_
      refine x_goto 24 dX8_lotsThatMove_20 (by decide) ?_
      refine x_iadd dX8_lotsThatMove_24 ?_
      refine x_istore_n dX8_lotsThatMove_25 (Nat.le_of_ble_eq_true rfl) ?_
      refine x_iinc (a2 + 1) dX8_lotsThatMove_26 rfl (by rfl) ?_
      refine x_goto 4 dX8_lotsThatMove_29 (by decide) ?_
      exact Wp.mask [true, true, true] (hrec 4 _ _ _ h _ _ rfl _ hQ)
theorem s_X8_lotsThatMove {G : xG} {l : Launch} (hl : l.stackTraces = false) : ∀ n pc env P z, f_X8_lotsThatMove n pc env P = some z → ∀ L st, lay_X8_lotsThatMove pc env = some (L, st) → ∀ Q : xR → xH → Prop, Q z.1 z.2 → Wp G l 3 mX8_lotsThatMove pc L st P Q := by
  intro n
  induction n with
  | zero => intro pc env P z h; cases h
  | succ n ih =>
    intro pc env P z h L st hlay Q hQ
    unfold f_X8_lotsThatMove at h
    split at h
    · cases hlay
      exact t_X8_lotsThatMove_0 hl ih h hQ
    · cases hlay
      exact t_X8_lotsThatMove_4 hl ih h hQ
    · cases h
theorem c_X8_lotsThatMove {G : xG} {l : Launch} (hl : l.stackTraces = false) {n : Nat} {as : List Value} {P : xH} {z : xR × xH} (h : f_X8_lotsThatMove n 0 as P = some z) : Ct G l 3 mX8_lotsThatMove as P (fun r P1 => (r, P1) = z) := by
  cases n with
  | zero => cases h
  | succ n =>
    unfold f_X8_lotsThatMove at h
    split at h
    · exact Ct.of hl (by decide +kernel) wc_X8_lotsThatMove (Nat.le_of_ble_eq_true rfl) (t_X8_lotsThatMove_0 hl (s_X8_lotsThatMove hl _) h rfl)
    all_goals first | (cases h; done) | (rename_i q9 _; exact absurd q9 (by decide)) | (rename_i q9; exact absurd q9 (by decide)) | contradiction
/-! QuakeNet.count(I)I -/
def b_X10_count_0 (n : Nat) (rec : Nat → List Value → xH → xO) (a0 : Nat) (a1 : Int32) (P : xH) : xO :=
  if Int32.toInt a1 < 0 ∨ 11 < Int32.toInt a1 then
    some (.inl (some (.int ((-1)))), P)
  else
  if a1 = 0 then
    (rA P a0 10 1).bind fun v2 =>
    (rA P v2 7 3).bind fun v4 =>
    (rI P v4 1 2).bind fun v6 =>
    some (.inl (some (.int v6)), P)
  else
  if a1 = 1 then
    (rA P a0 10 1).bind fun v9 =>
    (rA P v9 7 3).bind fun v11 =>
    (rI P v11 1 3).bind fun v13 =>
    some (.inl (some (.int v13)), P)
  else
  if a1 = 2 then
    (rA P a0 10 1).bind fun v16 =>
    (rA P v16 7 1).bind fun v18 =>
    (rI P v18 9 3).bind fun v20 =>
    some (.inl (some (.int v20)), P)
  else
  if a1 = 3 then
    (rA P a0 10 1).bind fun v23 =>
    (rA P v23 7 0).bind fun v25 =>
    (rI P v25 5 3).bind fun v27 =>
    some (.inl (some (.int v27)), P)
  else
  if a1 = 4 then
    (rA P a0 10 1).bind fun v30 =>
    (rA P v30 7 3).bind fun v32 =>
    (kO P v32 1).bind fun _ =>
    (f_X1_total n 0 [.ref v32, .int 2] P).bind fun r35 => xI r35 fun v37 P34 =>
    some (.inl (some (.int v37)), P34)
  else
  if a1 = 5 then
    (rA P a0 10 1).bind fun v40 =>
    (rA P v40 7 3).bind fun v42 =>
    (kO P v42 1).bind fun _ =>
    (f_X1_total n 0 [.ref v42, .int 5] P).bind fun r45 => xI r45 fun v47 P44 =>
    some (.inl (some (.int v47)), P44)
  else
  if a1 = 6 then
    (rA P a0 10 1).bind fun v50 =>
    (rA P v50 7 3).bind fun v52 =>
    (kO P v52 1).bind fun _ =>
    (f_X1_total n 0 [.ref v52, .int 7] P).bind fun r55 => xI r55 fun v57 P54 =>
    some (.inl (some (.int v57)), P54)
  else
  if a1 = 7 then
    (rA P a0 10 1).bind fun v60 =>
    (rA P v60 7 3).bind fun v62 =>
    (kO P v62 1).bind fun _ =>
    (f_X1_wordsHad n 0 [.ref v62] P).bind fun r65 => xI r65 fun v67 P64 =>
    some (.inl (some (.int v67)), P64)
  else
  if a1 = 8 then
    (rA P a0 10 1).bind fun v70 =>
    (rA P v70 7 6).bind fun v72 =>
    (rI P v72 2 5).bind fun v74 =>
    some (.inl (some (.int v74)), P)
  else
  if a1 = 9 then
    (rA P a0 10 1).bind fun v77 =>
    (rA P v77 7 7).bind fun v79 =>
    (rI P v79 0 5).bind fun v81 =>
    some (.inl (some (.int v81)), P)
  else
  if a1 = 10 then
    (rA P a0 10 1).bind fun v84 =>
    (rA P v84 7 7).bind fun v86 =>
    (rI P v86 0 6).bind fun v88 =>
    some (.inl (some (.int v88)), P)
  else
  if a1 = 11 then
    (rA P a0 10 1).bind fun v91 =>
    (rA P v91 7 2).bind fun v93 =>
    (kO P v93 8).bind fun _ =>
    (f_X8_lotsThatMove n 0 [.ref v93] P).bind fun r96 => xI r96 fun v98 P95 =>
    some (.inl (some (.int v98)), P95)
  else
  none
def lay_X10_count : Nat → List Value → Option (xL × List Value)
  | 0, [a0, a1] => some ([some a0, some a1], [])
  | _, _ => none
def f_X10_count : Nat → Nat → List Value → xH → xO
  | 0 => fun _ _ _ => none
  | n + 1 => fun pc env P => match pc, env with
    | 0, [.ref a0, .int a1] => b_X10_count_0 n (f_X10_count n) a0 a1 P
    | _, _ => none
set_option maxHeartbeats 2000000 in
set_option maxRecDepth 20000 in
theorem t_X10_count_0 {G : xG} {l : Launch} (hl : l.stackTraces = false) {n : Nat} {rec : Nat → List Value → xH → xO} (hrec : ∀ pc env P z, rec pc env P = some z → ∀ L st, lay_X10_count pc env = some (L, st) → ∀ Q : xR → xH → Prop, Q z.1 z.2 → Wp G l 4 mX10_count pc L st P Q) {a0 a1} {P : xH} {z : xR × xH} (h : b_X10_count_0 n rec a0 a1 P = some z) {Q : xR → xH → Prop} (hQ : Q z.1 z.2) : Wp G l 4 mX10_count 0 [some (.ref a0), some (.int a1)] [] P Q := by
  unfold b_X10_count_0 at h
  refine x_iload_n dX10_count_0 rfl ?_
  by_cases q1 : Int32.toInt a1 < 0 ∨ 11 < Int32.toInt a1
  · rw [if_pos q1] at h
    refine x_tabOut 200 dX10_count_1 q1 (by decide) ?_
    refine x_iconst (-1) dX10_count_200 (by decide) ?_
    cases h
    exact x_iret .int rfl rfl dX10_count_201 hQ
  · rw [if_neg q1] at h
    by_cases q8 : a1 = 0
    · rw [if_pos q8] at h
      refine x_tabIn 64 dX10_count_1 (fun w9 => q1 (Or.inl w9)) (fun w9 => q1 (Or.inr w9)) (by rw [q8]; rfl) (by decide) ?_
      refine x_aload_nr dX10_count_64 rfl ?_
      obtain ⟨v2, e3, h⟩ := Option.bind_eq_some_iff.mp h
      refine k_rA e3 dX10_count_65 f_X10_19 ?_
      obtain ⟨v4, e5, h⟩ := Option.bind_eq_some_iff.mp h
      refine k_rA e5 dX10_count_68 f_X10_42 ?_
      obtain ⟨v6, e7, h⟩ := Option.bind_eq_some_iff.mp h
      refine k_rI e7 dX10_count_71 f_X10_93 ?_
      cases h
      exact x_iret .int rfl rfl dX10_count_74 hQ
    · rw [if_neg q8] at h
      by_cases q15 : a1 = 1
      · rw [if_pos q15] at h
        refine x_tabIn 75 dX10_count_1 (fun w9 => q1 (Or.inl w9)) (fun w9 => q1 (Or.inr w9)) (by rw [q15]; rfl) (by decide) ?_
        refine x_aload_nr dX10_count_75 rfl ?_
        obtain ⟨v9, e10, h⟩ := Option.bind_eq_some_iff.mp h
        refine k_rA e10 dX10_count_76 f_X10_19 ?_
        obtain ⟨v11, e12, h⟩ := Option.bind_eq_some_iff.mp h
        refine k_rA e12 dX10_count_79 f_X10_42 ?_
        obtain ⟨v13, e14, h⟩ := Option.bind_eq_some_iff.mp h
        refine k_rI e14 dX10_count_82 f_X10_71 ?_
        cases h
        exact x_iret .int rfl rfl dX10_count_85 hQ
      · rw [if_neg q15] at h
        by_cases q22 : a1 = 2
        · rw [if_pos q22] at h
          refine x_tabIn 86 dX10_count_1 (fun w9 => q1 (Or.inl w9)) (fun w9 => q1 (Or.inr w9)) (by rw [q22]; rfl) (by decide) ?_
          refine x_aload_nr dX10_count_86 rfl ?_
          obtain ⟨v16, e17, h⟩ := Option.bind_eq_some_iff.mp h
          refine k_rA e17 dX10_count_87 f_X10_19 ?_
          obtain ⟨v18, e19, h⟩ := Option.bind_eq_some_iff.mp h
          refine k_rA e19 dX10_count_90 f_X10_25 ?_
          obtain ⟨v20, e21, h⟩ := Option.bind_eq_some_iff.mp h
          refine k_rI e21 dX10_count_93 f_X10_126 ?_
          cases h
          exact x_iret .int rfl rfl dX10_count_96 hQ
        · rw [if_neg q22] at h
          by_cases q29 : a1 = 3
          · rw [if_pos q29] at h
            refine x_tabIn 97 dX10_count_1 (fun w9 => q1 (Or.inl w9)) (fun w9 => q1 (Or.inr w9)) (by rw [q29]; rfl) (by decide) ?_
            refine x_aload_nr dX10_count_97 rfl ?_
            obtain ⟨v23, e24, h⟩ := Option.bind_eq_some_iff.mp h
            refine k_rA e24 dX10_count_98 f_X10_19 ?_
            obtain ⟨v25, e26, h⟩ := Option.bind_eq_some_iff.mp h
            refine k_rA e26 dX10_count_101 f_X10_29 ?_
            obtain ⟨v27, e28, h⟩ := Option.bind_eq_some_iff.mp h
            refine k_rI e28 dX10_count_104 f_X10_120 ?_
            cases h
            exact x_iret .int rfl rfl dX10_count_107 hQ
          · rw [if_neg q29] at h
            by_cases q39 : a1 = 4
            · rw [if_pos q39] at h
              refine x_tabIn 108 dX10_count_1 (fun w9 => q1 (Or.inl w9)) (fun w9 => q1 (Or.inr w9)) (by rw [q39]; rfl) (by decide) ?_
              refine x_aload_nr dX10_count_108 rfl ?_
              obtain ⟨v30, e31, h⟩ := Option.bind_eq_some_iff.mp h
              refine k_rA e31 dX10_count_109 f_X10_19 ?_
              obtain ⟨v32, e33, h⟩ := Option.bind_eq_some_iff.mp h
              refine k_rA e33 dX10_count_112 f_X10_42 ?_
              refine x_iconst 2 dX10_count_115 (by decide) ?_
              obtain ⟨_, e38, h⟩ := Option.bind_eq_some_iff.mp h
              obtain ⟨fse38, e38⟩ := kO_ok e38
              obtain ⟨r35, e36, h⟩ := Option.bind_eq_some_iff.mp h
              replace h := xI_ok h
              obtain ⟨v37, P34, rfl, h⟩ := h
              refine x_callV (c_X1_total hl e36) dX10_count_116 cw_X1_total wl_X10_335 wi_X1_total wse_X1_total rfl e38 (by decide) rfl (by omega) (by decide) rfl (Nat.le_of_ble_eq_true rfl) rfl (fun v9 P9 hq9 => ?_) (fun i9 P9 hq9 => by cases hq9)
              cases hq9
              cases h
              exact x_iret .int rfl rfl dX10_count_119 hQ
            · rw [if_neg q39] at h
              by_cases q49 : a1 = 5
              · rw [if_pos q49] at h
                refine x_tabIn 120 dX10_count_1 (fun w9 => q1 (Or.inl w9)) (fun w9 => q1 (Or.inr w9)) (by rw [q49]; rfl) (by decide) ?_
                refine x_aload_nr dX10_count_120 rfl ?_
                obtain ⟨v40, e41, h⟩ := Option.bind_eq_some_iff.mp h
                refine k_rA e41 dX10_count_121 f_X10_19 ?_
                obtain ⟨v42, e43, h⟩ := Option.bind_eq_some_iff.mp h
                refine k_rA e43 dX10_count_124 f_X10_42 ?_
                refine x_iconst 5 dX10_count_127 (by decide) ?_
                obtain ⟨_, e48, h⟩ := Option.bind_eq_some_iff.mp h
                obtain ⟨fse48, e48⟩ := kO_ok e48
                obtain ⟨r45, e46, h⟩ := Option.bind_eq_some_iff.mp h
                replace h := xI_ok h
                obtain ⟨v47, P44, rfl, h⟩ := h
                refine x_callV (c_X1_total hl e46) dX10_count_128 cw_X1_total wl_X10_335 wi_X1_total wse_X1_total rfl e48 (by decide) rfl (by omega) (by decide) rfl (Nat.le_of_ble_eq_true rfl) rfl (fun v9 P9 hq9 => ?_) (fun i9 P9 hq9 => by cases hq9)
                cases hq9
                cases h
                exact x_iret .int rfl rfl dX10_count_131 hQ
              · rw [if_neg q49] at h
                by_cases q59 : a1 = 6
                · rw [if_pos q59] at h
                  refine x_tabIn 132 dX10_count_1 (fun w9 => q1 (Or.inl w9)) (fun w9 => q1 (Or.inr w9)) (by rw [q59]; rfl) (by decide) ?_
                  refine x_aload_nr dX10_count_132 rfl ?_
                  obtain ⟨v50, e51, h⟩ := Option.bind_eq_some_iff.mp h
                  refine k_rA e51 dX10_count_133 f_X10_19 ?_
                  obtain ⟨v52, e53, h⟩ := Option.bind_eq_some_iff.mp h
                  refine k_rA e53 dX10_count_136 f_X10_42 ?_
                  refine x_bipush 7 dX10_count_139 (by decide) ?_
                  obtain ⟨_, e58, h⟩ := Option.bind_eq_some_iff.mp h
                  obtain ⟨fse58, e58⟩ := kO_ok e58
                  obtain ⟨r55, e56, h⟩ := Option.bind_eq_some_iff.mp h
                  replace h := xI_ok h
                  obtain ⟨v57, P54, rfl, h⟩ := h
                  refine x_callV (c_X1_total hl e56) dX10_count_141 cw_X1_total wl_X10_335 wi_X1_total wse_X1_total rfl e58 (by decide) rfl (by omega) (by decide) rfl (Nat.le_of_ble_eq_true rfl) rfl (fun v9 P9 hq9 => ?_) (fun i9 P9 hq9 => by cases hq9)
                  cases hq9
                  cases h
                  exact x_iret .int rfl rfl dX10_count_144 hQ
                · rw [if_neg q59] at h
                  by_cases q69 : a1 = 7
                  · rw [if_pos q69] at h
                    refine x_tabIn 145 dX10_count_1 (fun w9 => q1 (Or.inl w9)) (fun w9 => q1 (Or.inr w9)) (by rw [q69]; rfl) (by decide) ?_
                    refine x_aload_nr dX10_count_145 rfl ?_
                    obtain ⟨v60, e61, h⟩ := Option.bind_eq_some_iff.mp h
                    refine k_rA e61 dX10_count_146 f_X10_19 ?_
                    obtain ⟨v62, e63, h⟩ := Option.bind_eq_some_iff.mp h
                    refine k_rA e63 dX10_count_149 f_X10_42 ?_
                    obtain ⟨_, e68, h⟩ := Option.bind_eq_some_iff.mp h
                    obtain ⟨fse68, e68⟩ := kO_ok e68
                    obtain ⟨r65, e66, h⟩ := Option.bind_eq_some_iff.mp h
                    replace h := xI_ok h
                    obtain ⟨v67, P64, rfl, h⟩ := h
                    refine x_callV (c_X1_wordsHad hl e66) dX10_count_152 cw_X1_wordsHad wl_X10_338 wi_X1_wordsHad wse_X1_wordsHad rfl e68 (by decide) rfl (by omega) (by decide) rfl (Nat.le_of_ble_eq_true rfl) rfl (fun v9 P9 hq9 => ?_) (fun i9 P9 hq9 => by cases hq9)
                    cases hq9
                    cases h
                    exact x_iret .int rfl rfl dX10_count_155 hQ
                  · rw [if_neg q69] at h
                    by_cases q76 : a1 = 8
                    · rw [if_pos q76] at h
                      refine x_tabIn 156 dX10_count_1 (fun w9 => q1 (Or.inl w9)) (fun w9 => q1 (Or.inr w9)) (by rw [q76]; rfl) (by decide) ?_
                      refine x_aload_nr dX10_count_156 rfl ?_
                      obtain ⟨v70, e71, h⟩ := Option.bind_eq_some_iff.mp h
                      refine k_rA e71 dX10_count_157 f_X10_19 ?_
                      obtain ⟨v72, e73, h⟩ := Option.bind_eq_some_iff.mp h
                      refine k_rA e73 dX10_count_160 f_X10_232 ?_
                      obtain ⟨v74, e75, h⟩ := Option.bind_eq_some_iff.mp h
                      refine k_rI e75 dX10_count_163 f_X10_253 ?_
                      cases h
                      exact x_iret .int rfl rfl dX10_count_166 hQ
                    · rw [if_neg q76] at h
                      by_cases q83 : a1 = 9
                      · rw [if_pos q83] at h
                        refine x_tabIn 167 dX10_count_1 (fun w9 => q1 (Or.inl w9)) (fun w9 => q1 (Or.inr w9)) (by rw [q83]; rfl) (by decide) ?_
                        refine x_aload_nr dX10_count_167 rfl ?_
                        obtain ⟨v77, e78, h⟩ := Option.bind_eq_some_iff.mp h
                        refine k_rA e78 dX10_count_168 f_X10_19 ?_
                        obtain ⟨v79, e80, h⟩ := Option.bind_eq_some_iff.mp h
                        refine k_rA e80 dX10_count_171 f_X10_257 ?_
                        obtain ⟨v81, e82, h⟩ := Option.bind_eq_some_iff.mp h
                        refine k_rI e82 dX10_count_174 f_X10_261 ?_
                        cases h
                        exact x_iret .int rfl rfl dX10_count_177 hQ
                      · rw [if_neg q83] at h
                        by_cases q90 : a1 = 10
                        · rw [if_pos q90] at h
                          refine x_tabIn 178 dX10_count_1 (fun w9 => q1 (Or.inl w9)) (fun w9 => q1 (Or.inr w9)) (by rw [q90]; rfl) (by decide) ?_
                          refine x_aload_nr dX10_count_178 rfl ?_
                          obtain ⟨v84, e85, h⟩ := Option.bind_eq_some_iff.mp h
                          refine k_rA e85 dX10_count_179 f_X10_19 ?_
                          obtain ⟨v86, e87, h⟩ := Option.bind_eq_some_iff.mp h
                          refine k_rA e87 dX10_count_182 f_X10_257 ?_
                          obtain ⟨v88, e89, h⟩ := Option.bind_eq_some_iff.mp h
                          refine k_rI e89 dX10_count_185 f_X10_270 ?_
                          cases h
                          exact x_iret .int rfl rfl dX10_count_188 hQ
                        · rw [if_neg q90] at h
                          by_cases q100 : a1 = 11
                          · rw [if_pos q100] at h
                            refine x_tabIn 189 dX10_count_1 (fun w9 => q1 (Or.inl w9)) (fun w9 => q1 (Or.inr w9)) (by rw [q100]; rfl) (by decide) ?_
                            refine x_aload_nr dX10_count_189 rfl ?_
                            obtain ⟨v91, e92, h⟩ := Option.bind_eq_some_iff.mp h
                            refine k_rA e92 dX10_count_190 f_X10_19 ?_
                            obtain ⟨v93, e94, h⟩ := Option.bind_eq_some_iff.mp h
                            refine k_rA e94 dX10_count_193 f_X10_96 ?_
                            obtain ⟨_, e99, h⟩ := Option.bind_eq_some_iff.mp h
                            obtain ⟨fse99, e99⟩ := kO_ok e99
                            obtain ⟨r96, e97, h⟩ := Option.bind_eq_some_iff.mp h
                            replace h := xI_ok h
                            obtain ⟨v98, P95, rfl, h⟩ := h
                            refine x_callV (c_X8_lotsThatMove hl e97) dX10_count_196 cw_X8_lotsThatMove wl_X10_341 wi_X8_lotsThatMove wse_X8_lotsThatMove rfl e99 (by decide) rfl (by omega) (by decide) rfl (Nat.le_of_ble_eq_true rfl) rfl (fun v9 P9 hq9 => ?_) (fun i9 P9 hq9 => by cases hq9)
                            cases hq9
                            cases h
                            exact x_iret .int rfl rfl dX10_count_199 hQ
                          · rw [if_neg q100] at h
                            cases h
theorem s_X10_count {G : xG} {l : Launch} (hl : l.stackTraces = false) : ∀ n pc env P z, f_X10_count n pc env P = some z → ∀ L st, lay_X10_count pc env = some (L, st) → ∀ Q : xR → xH → Prop, Q z.1 z.2 → Wp G l 4 mX10_count pc L st P Q := by
  intro n
  induction n with
  | zero => intro pc env P z h; cases h
  | succ n ih =>
    intro pc env P z h L st hlay Q hQ
    unfold f_X10_count at h
    split at h
    · cases hlay
      exact t_X10_count_0 hl ih h hQ
    · cases h
theorem c_X10_count {G : xG} {l : Launch} (hl : l.stackTraces = false) {n : Nat} {as : List Value} {P : xH} {z : xR × xH} (h : f_X10_count n 0 as P = some z) : Ct G l 4 mX10_count as P (fun r P1 => (r, P1) = z) := by
  cases n with
  | zero => cases h
  | succ n =>
    unfold f_X10_count at h
    split at h
    · exact Ct.of hl (by decide +kernel) wc_X10_count (Nat.le_of_ble_eq_true rfl) (t_X10_count_0 hl (s_X10_count hl _) h rfl)
    all_goals first | (cases h; done) | (rename_i q9 _; exact absurd q9 (by decide)) | (rename_i q9; exact absurd q9 (by decide)) | contradiction
/-! QuakeNet.needIndex(II)V -/
def b_X10_needIndex_0 (n : Nat) (rec : Nat → List Value → xH → xO) (a0 : Int32) (a1 : Int32) (P : xH) : xO :=
  if a0 < 0 then
    rec 9 [.int a0, .int a1] P
  else
    if a0 < a1 then
      some (.inl none, P)
    else
      rec 9 [.int a0, .int a1] P
def b_X10_needIndex_9 (n : Nat) (rec : Nat → List Value → xH → xO) (a0 : Int32) (a1 : Int32) (P : xH) : xO :=
  tE P 0
def lay_X10_needIndex : Nat → List Value → Option (xL × List Value)
  | 0, [a0, a1] => some ([some a0, some a1], [])
  | 9, [a0, a1] => some ([some a0, some a1], [])
  | _, _ => none
def f_X10_needIndex : Nat → Nat → List Value → xH → xO
  | 0 => fun _ _ _ => none
  | n + 1 => fun pc env P => match pc, env with
    | 0, [.int a0, .int a1] => b_X10_needIndex_0 n (f_X10_needIndex n) a0 a1 P
    | 9, [.int a0, .int a1] => b_X10_needIndex_9 n (f_X10_needIndex n) a0 a1 P
    | _, _ => none
set_option maxHeartbeats 2000000 in
set_option maxRecDepth 20000 in
theorem t_X10_needIndex_0 {G : xG} {l : Launch} (hl : l.stackTraces = false) {n : Nat} {rec : Nat → List Value → xH → xO} (hrec : ∀ pc env P z, rec pc env P = some z → ∀ L st, lay_X10_needIndex pc env = some (L, st) → ∀ Q : xR → xH → Prop, Q z.1 z.2 → Wp G l 8 mX10_needIndex pc L st P Q) {a0 a1} {P : xH} {z : xR × xH} (h : b_X10_needIndex_0 n rec a0 a1 P = some z) {Q : xR → xH → Prop} (hQ : Q z.1 z.2) : Wp G l 8 mX10_needIndex 0 [some (.int a0), some (.int a1)] [] P Q := by
  unfold b_X10_needIndex_0 at h
  refine x_iload_n dX10_needIndex_0 rfl ?_
  refine x_if_lt 9 dX10_needIndex_1 (by decide) (fun q2 => ?_) (fun q2 => ?_)
  · rw [if_pos q2] at h
    exact Wp.mask [true, true] (hrec 9 _ _ _ h _ _ rfl _ hQ)
  · rw [if_neg q2] at h
    refine x_iload_n dX10_needIndex_4 rfl ?_
    refine x_iload_n dX10_needIndex_5 rfl ?_
    refine x_icmp_lt 20 dX10_needIndex_6 (by decide) (fun q1 => ?_) (fun q1 => ?_)
    · rw [if_pos q1] at h
      cases h
      exact x_ret rfl dX10_needIndex_20 hQ
    · rw [if_neg q1] at h
      exact Wp.mask [true, true] (hrec 9 _ _ _ h _ _ rfl _ hQ)
set_option maxHeartbeats 2000000 in
set_option maxRecDepth 20000 in
theorem t_X10_needIndex_9 {G : xG} {l : Launch} (hl : l.stackTraces = false) {n : Nat} {rec : Nat → List Value → xH → xO} (hrec : ∀ pc env P z, rec pc env P = some z → ∀ L st, lay_X10_needIndex pc env = some (L, st) → ∀ Q : xR → xH → Prop, Q z.1 z.2 → Wp G l 8 mX10_needIndex pc L st P Q) {a0 a1} {P : xH} {z : xR × xH} (h : b_X10_needIndex_9 n rec a0 a1 P = some z) {Q : xR → xH → Prop} (hQ : Q z.1 z.2) : Wp G l 8 mX10_needIndex 9 [some (.int a0), some (.int a1)] [] P Q := by
  unfold b_X10_needIndex_9 at h
  unfold tE at h
  split at h
  · rename_i hr9
    cases h
    exact x_throw (k := 0) (i := 0) (names := ["java/lang/RuntimeException", "java/lang/Exception"]) rfl rfl rfl (by decide +kernel) (by decide +kernel) wk_X10_344 wini_E0 vt_X10_348 (by decide +kernel) dX10_needIndex_9 dX10_needIndex_12 dX10_needIndex_13 dX10_needIndex_16 dX10_needIndex_19 (by decide) (by decide) hr9.1 hr9.2 hQ
  · cases h
theorem s_X10_needIndex {G : xG} {l : Launch} (hl : l.stackTraces = false) : ∀ n pc env P z, f_X10_needIndex n pc env P = some z → ∀ L st, lay_X10_needIndex pc env = some (L, st) → ∀ Q : xR → xH → Prop, Q z.1 z.2 → Wp G l 8 mX10_needIndex pc L st P Q := by
  intro n
  induction n with
  | zero => intro pc env P z h; cases h
  | succ n ih =>
    intro pc env P z h L st hlay Q hQ
    unfold f_X10_needIndex at h
    split at h
    · cases hlay
      exact t_X10_needIndex_0 hl ih h hQ
    · cases hlay
      exact t_X10_needIndex_9 hl ih h hQ
    · cases h
theorem c_X10_needIndex {G : xG} {l : Launch} (hl : l.stackTraces = false) {n : Nat} {as : List Value} {P : xH} {z : xR × xH} (h : f_X10_needIndex n 0 as P = some z) : Ct G l 8 mX10_needIndex as P (fun r P1 => (r, P1) = z) := by
  cases n with
  | zero => cases h
  | succ n =>
    unfold f_X10_needIndex at h
    split at h
    · exact Ct.of hl (by decide +kernel) wc_X10_needIndex (Nat.le_of_ble_eq_true rfl) (t_X10_needIndex_0 hl (s_X10_needIndex hl _) h rfl)
    all_goals first | (cases h; done) | (rename_i q9 _; exact absurd q9 (by decide)) | (rename_i q9; exact absurd q9 (by decide)) | contradiction
