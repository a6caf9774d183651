/-! QuakeNet.needPlace(I)V -/
def b_X10_needPlace_0 (n : Nat) (rec : Nat → List Value → xH → xO) (a0 : Int32) (P : xH) : xO :=
  (f_X10_needIndex n 0 [.int a0, .int 16] P).bind fun r2 => xUt r2 fun P1 =>
  some (.inl none, P1)
def lay_X10_needPlace : Nat → List Value → Option (xL × List Value)
  | 0, [a0] => some ([some a0], [])
  | _, _ => none
def f_X10_needPlace : Nat → Nat → List Value → xH → xO
  | 0 => fun _ _ _ => none
  | n + 1 => fun pc env P => match pc, env with
    | 0, [.int a0] => b_X10_needPlace_0 n (f_X10_needPlace n) a0 P
    | _, _ => none
set_option maxHeartbeats 2000000 in
set_option maxRecDepth 20000 in
theorem t_X10_needPlace_0 {G : xG} {l : Launch} (hl : l.stackTraces = false) {n : Nat} {rec : Nat → List Value → xH → xO} (hrec : ∀ pc env P z, rec pc env P = some z → ∀ L st, lay_X10_needPlace pc env = some (L, st) → ∀ Q : xR → xH → Prop, Q z.1 z.2 → Wp G l 9 mX10_needPlace pc L st P Q) {a0} {P : xH} {z : xR × xH} (h : b_X10_needPlace_0 n rec a0 P = some z) {Q : xR → xH → Prop} (hQ : Q z.1 z.2) : Wp G l 9 mX10_needPlace 0 [some (.int a0)] [] P Q := by
  unfold b_X10_needPlace_0 at h
  refine x_iload_n dX10_needPlace_0 rfl ?_
  refine x_bipush 16 dX10_needPlace_1 (by decide) ?_
  obtain ⟨r2, e3, h⟩ := Option.bind_eq_some_iff.mp h
  replace h := xUt_ok h
  rcases h with ⟨P1, hr9, h⟩ | ⟨i8, P8, rfl, rfl⟩
  · subst hr9
    refine x_callS (c_X10_needIndex hl e3) dX10_needPlace_3 cw_X10_needIndex wl_X10_87 ws_X10_needIndex rfl (by omega) (by decide) rfl (Nat.le_of_ble_eq_true rfl) rfl (fun v9 P9 hq9 => ?_) (fun i9 P9 hq9 => by cases hq9)
    cases hq9
    cases h
    exact x_ret rfl dX10_needPlace_6 hQ
  · exact x_callS (c_X10_needIndex hl e3) dX10_needPlace_3 cw_X10_needIndex wl_X10_87 ws_X10_needIndex rfl (by omega) (by decide) rfl (Nat.le_of_ble_eq_true rfl) rfl (fun v9 P9 hq9 => by cases hq9) (fun i9 P9 hq9 => by cases hq9; exact hQ)
theorem s_X10_needPlace {G : xG} {l : Launch} (hl : l.stackTraces = false) : ∀ n pc env P z, f_X10_needPlace n pc env P = some z → ∀ L st, lay_X10_needPlace pc env = some (L, st) → ∀ Q : xR → xH → Prop, Q z.1 z.2 → Wp G l 9 mX10_needPlace pc L st P Q := by
  intro n
  induction n with
  | zero => intro pc env P z h; cases h
  | succ n ih =>
    intro pc env P z h L st hlay Q hQ
    unfold f_X10_needPlace at h
    split at h
    · cases hlay
      exact t_X10_needPlace_0 hl ih h hQ
    · cases h
theorem c_X10_needPlace {G : xG} {l : Launch} (hl : l.stackTraces = false) {n : Nat} {as : List Value} {P : xH} {z : xR × xH} (h : f_X10_needPlace n 0 as P = some z) : Ct G l 9 mX10_needPlace as P (fun r P1 => (r, P1) = z) := by
  cases n with
  | zero => cases h
  | succ n =>
    unfold f_X10_needPlace at h
    split at h
    · exact Ct.of hl (by decide +kernel) wc_X10_needPlace (Nat.le_of_ble_eq_true rfl) (t_X10_needPlace_0 hl (s_X10_needPlace hl _) h rfl)
    all_goals first | (cases h; done) | (rename_i q9 _; exact absurd q9 (by decide)) | (rename_i q9; exact absurd q9 (by decide)) | contradiction
/-! QuakeNet.needSpace(II)V -/
def b_X10_needSpace_0 (n : Nat) (rec : Nat → List Value → xH → xO) (a0 : Int32) (a1 : Int32) (P : xH) : xO :=
  if a0 < a1 then
    some (.inl none, P)
  else
    tE P 2
def lay_X10_needSpace : Nat → List Value → Option (xL × List Value)
  | 0, [a0, a1] => some ([some a0, some a1], [])
  | _, _ => none
def f_X10_needSpace : Nat → Nat → List Value → xH → xO
  | 0 => fun _ _ _ => none
  | n + 1 => fun pc env P => match pc, env with
    | 0, [.int a0, .int a1] => b_X10_needSpace_0 n (f_X10_needSpace n) a0 a1 P
    | _, _ => none
set_option maxHeartbeats 2000000 in
set_option maxRecDepth 20000 in
theorem t_X10_needSpace_0 {G : xG} {l : Launch} (hl : l.stackTraces = false) {n : Nat} {rec : Nat → List Value → xH → xO} (hrec : ∀ pc env P z, rec pc env P = some z → ∀ L st, lay_X10_needSpace pc env = some (L, st) → ∀ Q : xR → xH → Prop, Q z.1 z.2 → Wp G l 8 mX10_needSpace pc L st P Q) {a0 a1} {P : xH} {z : xR × xH} (h : b_X10_needSpace_0 n rec a0 a1 P = some z) {Q : xR → xH → Prop} (hQ : Q z.1 z.2) : Wp G l 8 mX10_needSpace 0 [some (.int a0), some (.int a1)] [] P Q := by
  unfold b_X10_needSpace_0 at h
  refine x_iload_n dX10_needSpace_0 rfl ?_
  refine x_iload_n dX10_needSpace_1 rfl ?_
  refine x_icmp_lt 16 dX10_needSpace_2 (by decide) (fun q1 => ?_) (fun q1 => ?_)
  · rw [if_pos q1] at h
    cases h
    exact x_ret rfl dX10_needSpace_16 hQ
  · rw [if_neg q1] at h
    unfold tE at h
    split at h
    · rename_i hr9
      cases h
      exact x_throw (k := 2) (i := 2) (names := ["java/lang/RuntimeException", "java/lang/Exception"]) rfl rfl rfl (by decide +kernel) (by decide +kernel) wk_X10_356 wini_E2 vt_X10_360 (by decide +kernel) dX10_needSpace_5 dX10_needSpace_8 dX10_needSpace_9 dX10_needSpace_12 dX10_needSpace_15 (by decide) (by decide) hr9.1 hr9.2 hQ
    · cases h
theorem s_X10_needSpace {G : xG} {l : Launch} (hl : l.stackTraces = false) : ∀ n pc env P z, f_X10_needSpace n pc env P = some z → ∀ L st, lay_X10_needSpace pc env = some (L, st) → ∀ Q : xR → xH → Prop, Q z.1 z.2 → Wp G l 8 mX10_needSpace pc L st P Q := by
  intro n
  induction n with
  | zero => intro pc env P z h; cases h
  | succ n ih =>
    intro pc env P z h L st hlay Q hQ
    unfold f_X10_needSpace at h
    split at h
    · cases hlay
      exact t_X10_needSpace_0 hl ih h hQ
    · cases h
theorem c_X10_needSpace {G : xG} {l : Launch} (hl : l.stackTraces = false) {n : Nat} {as : List Value} {P : xH} {z : xR × xH} (h : f_X10_needSpace n 0 as P = some z) : Ct G l 8 mX10_needSpace as P (fun r P1 => (r, P1) = z) := by
  cases n with
  | zero => cases h
  | succ n =>
    unfold f_X10_needSpace at h
    split at h
    · exact Ct.of hl (by decide +kernel) wc_X10_needSpace (Nat.le_of_ble_eq_true rfl) (t_X10_needSpace_0 hl (s_X10_needSpace hl _) h rfl)
    all_goals first | (cases h; done) | (rename_i q9 _; exact absurd q9 (by decide)) | (rename_i q9; exact absurd q9 (by decide)) | contradiction
/-! QuakeNet.needTickZero()V -/
def b_X10_needTickZero_0 (n : Nat) (rec : Nat → List Value → xH → xO) (a0 : Nat) (P : xH) : xO :=
  (rA P a0 10 1).bind fun v1 =>
  (rA P v1 7 3).bind fun v3 =>
  (rI P v3 1 2).bind fun v5 =>
  if v5 ≤ 0 then
    some (.inl none, P)
  else
    tE P 3
def lay_X10_needTickZero : Nat → List Value → Option (xL × List Value)
  | 0, [a0] => some ([some a0], [])
  | _, _ => none
def f_X10_needTickZero : Nat → Nat → List Value → xH → xO
  | 0 => fun _ _ _ => none
  | n + 1 => fun pc env P => match pc, env with
    | 0, [.ref a0] => b_X10_needTickZero_0 n (f_X10_needTickZero n) a0 P
    | _, _ => none
set_option maxHeartbeats 2000000 in
set_option maxRecDepth 20000 in
theorem t_X10_needTickZero_0 {G : xG} {l : Launch} (hl : l.stackTraces = false) {n : Nat} {rec : Nat → List Value → xH → xO} (hrec : ∀ pc env P z, rec pc env P = some z → ∀ L st, lay_X10_needTickZero pc env = some (L, st) → ∀ Q : xR → xH → Prop, Q z.1 z.2 → Wp G l 8 mX10_needTickZero pc L st P Q) {a0} {P : xH} {z : xR × xH} (h : b_X10_needTickZero_0 n rec a0 P = some z) {Q : xR → xH → Prop} (hQ : Q z.1 z.2) : Wp G l 8 mX10_needTickZero 0 [some (.ref a0)] [] P Q := by
  unfold b_X10_needTickZero_0 at h
  refine x_aload_nr dX10_needTickZero_0 rfl ?_
  obtain ⟨v1, e2, h⟩ := Option.bind_eq_some_iff.mp h
  refine k_rA e2 dX10_needTickZero_1 f_X10_19 ?_
  obtain ⟨v3, e4, h⟩ := Option.bind_eq_some_iff.mp h
  refine k_rA e4 dX10_needTickZero_4 f_X10_42 ?_
  obtain ⟨v5, e6, h⟩ := Option.bind_eq_some_iff.mp h
  refine k_rI e6 dX10_needTickZero_7 f_X10_93 ?_
  refine x_if_le 24 dX10_needTickZero_10 (by decide) (fun q7 => ?_) (fun q7 => ?_)
  · rw [if_pos q7] at h
    cases h
    exact x_ret rfl dX10_needTickZero_24 hQ
  · rw [if_neg q7] at h
    unfold tE at h
    split at h
    · rename_i hr9
      cases h
      exact x_throw (k := 3) (i := 3) (names := ["java/lang/RuntimeException", "java/lang/Exception"]) rfl rfl rfl (by decide +kernel) (by decide +kernel) wk_X10_364 wini_E3 vt_X10_368 (by decide +kernel) dX10_needTickZero_13 dX10_needTickZero_16 dX10_needTickZero_17 dX10_needTickZero_20 dX10_needTickZero_23 (by decide) (by decide) hr9.1 hr9.2 hQ
    · cases h
theorem s_X10_needTickZero {G : xG} {l : Launch} (hl : l.stackTraces = false) : ∀ n pc env P z, f_X10_needTickZero n pc env P = some z → ∀ L st, lay_X10_needTickZero pc env = some (L, st) → ∀ Q : xR → xH → Prop, Q z.1 z.2 → Wp G l 8 mX10_needTickZero pc L st P Q := by
  intro n
  induction n with
  | zero => intro pc env P z h; cases h
  | succ n ih =>
    intro pc env P z h L st hlay Q hQ
    unfold f_X10_needTickZero at h
    split at h
    · cases hlay
      exact t_X10_needTickZero_0 hl ih h hQ
    · cases h
theorem c_X10_needTickZero {G : xG} {l : Launch} (hl : l.stackTraces = false) {n : Nat} {as : List Value} {P : xH} {z : xR × xH} (h : f_X10_needTickZero n 0 as P = some z) : Ct G l 8 mX10_needTickZero as P (fun r P1 => (r, P1) = z) := by
  cases n with
  | zero => cases h
  | succ n =>
    unfold f_X10_needTickZero at h
    split at h
    · exact Ct.of hl (by decide +kernel) wc_X10_needTickZero (Nat.le_of_ble_eq_true rfl) (t_X10_needTickZero_0 hl (s_X10_needTickZero hl _) h rfl)
    all_goals first | (cases h; done) | (rename_i q9 _; exact absurd q9 (by decide)) | (rename_i q9; exact absurd q9 (by decide)) | contradiction
/-! QuakeNet.needWithin(III)V -/
def b_X10_needWithin_0 (n : Nat) (rec : Nat → List Value → xH → xO) (a0 : Int32) (a1 : Int32) (a2 : Int32) (P : xH) : xO :=
  if a0 < a1 then
    rec 10 [.int a0, .int a1, .int a2] P
  else
    if a0 ≤ a2 then
      some (.inl none, P)
    else
      rec 10 [.int a0, .int a1, .int a2] P
def b_X10_needWithin_10 (n : Nat) (rec : Nat → List Value → xH → xO) (a0 : Int32) (a1 : Int32) (a2 : Int32) (P : xH) : xO :=
  tE P 1
def lay_X10_needWithin : Nat → List Value → Option (xL × List Value)
  | 0, [a0, a1, a2] => some ([some a0, some a1, some a2], [])
  | 10, [a0, a1, a2] => some ([some a0, some a1, some a2], [])
  | _, _ => none
def f_X10_needWithin : Nat → Nat → List Value → xH → xO
  | 0 => fun _ _ _ => none
  | n + 1 => fun pc env P => match pc, env with
    | 0, [.int a0, .int a1, .int a2] => b_X10_needWithin_0 n (f_X10_needWithin n) a0 a1 a2 P
    | 10, [.int a0, .int a1, .int a2] => b_X10_needWithin_10 n (f_X10_needWithin n) a0 a1 a2 P
    | _, _ => none
set_option maxHeartbeats 2000000 in
set_option maxRecDepth 20000 in
theorem t_X10_needWithin_0 {G : xG} {l : Launch} (hl : l.stackTraces = false) {n : Nat} {rec : Nat → List Value → xH → xO} (hrec : ∀ pc env P z, rec pc env P = some z → ∀ L st, lay_X10_needWithin pc env = some (L, st) → ∀ Q : xR → xH → Prop, Q z.1 z.2 → Wp G l 8 mX10_needWithin pc L st P Q) {a0 a1 a2} {P : xH} {z : xR × xH} (h : b_X10_needWithin_0 n rec a0 a1 a2 P = some z) {Q : xR → xH → Prop} (hQ : Q z.1 z.2) : Wp G l 8 mX10_needWithin 0 [some (.int a0), some (.int a1), some (.int a2)] [] P Q := by
  unfold b_X10_needWithin_0 at h
  refine x_iload_n dX10_needWithin_0 rfl ?_
  refine x_iload_n dX10_needWithin_1 rfl ?_
  refine x_icmp_lt 10 dX10_needWithin_2 (by decide) (fun q2 => ?_) (fun q2 => ?_)
  · rw [if_pos q2] at h
    exact Wp.mask [true, true, true] (hrec 10 _ _ _ h _ _ rfl _ hQ)
  · rw [if_neg q2] at h
    refine x_iload_n dX10_needWithin_5 rfl ?_
    refine x_iload_n dX10_needWithin_6 rfl ?_
    refine x_icmp_le 21 dX10_needWithin_7 (by decide) (fun q1 => ?_) (fun q1 => ?_)
    · rw [if_pos q1] at h
      cases h
      exact x_ret rfl dX10_needWithin_21 hQ
    · rw [if_neg q1] at h
      exact Wp.mask [true, true, true] (hrec 10 _ _ _ h _ _ rfl _ hQ)
set_option maxHeartbeats 2000000 in
set_option maxRecDepth 20000 in
theorem t_X10_needWithin_10 {G : xG} {l : Launch} (hl : l.stackTraces = false) {n : Nat} {rec : Nat → List Value → xH → xO} (hrec : ∀ pc env P z, rec pc env P = some z → ∀ L st, lay_X10_needWithin pc env = some (L, st) → ∀ Q : xR → xH → Prop, Q z.1 z.2 → Wp G l 8 mX10_needWithin pc L st P Q) {a0 a1 a2} {P : xH} {z : xR × xH} (h : b_X10_needWithin_10 n rec a0 a1 a2 P = some z) {Q : xR → xH → Prop} (hQ : Q z.1 z.2) : Wp G l 8 mX10_needWithin 10 [some (.int a0), some (.int a1), some (.int a2)] [] P Q := by
  unfold b_X10_needWithin_10 at h
  unfold tE at h
  split at h
  · rename_i hr9
    cases h
    exact x_throw (k := 1) (i := 1) (names := ["java/lang/RuntimeException", "java/lang/Exception"]) rfl rfl rfl (by decide +kernel) (by decide +kernel) wk_X10_351 wini_E1 vt_X10_355 (by decide +kernel) dX10_needWithin_10 dX10_needWithin_13 dX10_needWithin_14 dX10_needWithin_17 dX10_needWithin_20 (by decide) (by decide) hr9.1 hr9.2 hQ
  · cases h
theorem s_X10_needWithin {G : xG} {l : Launch} (hl : l.stackTraces = false) : ∀ n pc env P z, f_X10_needWithin n pc env P = some z → ∀ L st, lay_X10_needWithin pc env = some (L, st) → ∀ Q : xR → xH → Prop, Q z.1 z.2 → Wp G l 8 mX10_needWithin pc L st P Q := by
  intro n
  induction n with
  | zero => intro pc env P z h; cases h
  | succ n ih =>
    intro pc env P z h L st hlay Q hQ
    unfold f_X10_needWithin at h
    split at h
    · cases hlay
      exact t_X10_needWithin_0 hl ih h hQ
    · cases hlay
      exact t_X10_needWithin_10 hl ih h hQ
    · cases h
theorem c_X10_needWithin {G : xG} {l : Launch} (hl : l.stackTraces = false) {n : Nat} {as : List Value} {P : xH} {z : xR × xH} (h : f_X10_needWithin n 0 as P = some z) : Ct G l 8 mX10_needWithin as P (fun r P1 => (r, P1) = z) := by
  cases n with
  | zero => cases h
  | succ n =>
    unfold f_X10_needWithin at h
    split at h
    · exact Ct.of hl (by decide +kernel) wc_X10_needWithin (Nat.le_of_ble_eq_true rfl) (t_X10_needWithin_0 hl (s_X10_needWithin hl _) h rfl)
    all_goals first | (cases h; done) | (rename_i q9 _; exact absurd q9 (by decide)) | (rename_i q9; exact absurd q9 (by decide)) | contradiction
/-! QuakeNet$Net.addPhone(IIII)I -/
def b_X1_addPhone_0 (n : Nat) (rec : Nat → List Value → xH → xO) (a0 : Nat) (a1 : Int32) (a2 : Int32) (a3 : Int32) (a4 : Int32) (P : xH) : xO :=
  (rI P a0 1 3).bind fun v1 =>
  if v1 < 10 then
    (rA P a0 1 5).bind fun v3 =>
    (aA P v3 0).bind fun v5 =>
    (sI P v5 v1 a1).bind fun P7 =>
    (rA P7 a0 1 5).bind fun v9 =>
    (aA P7 v9 1).bind fun v11 =>
    (sI P7 v11 v1 a2).bind fun P13 =>
    (rA P13 a0 1 5).bind fun v15 =>
    (aA P13 v15 3).bind fun v17 =>
    (sI P13 v17 v1 a3).bind fun P19 =>
    (rA P19 a0 1 5).bind fun v21 =>
    (aA P19 v21 4).bind fun v23 =>
    (sI P19 v23 v1 a4).bind fun P25 =>
    (rI P25 a0 1 3).bind fun v27 =>
    (wV P25 a0 1 3 (.int ((v27 + 1)))).bind fun P29 =>
    some (.inl (some (.int v1)), P29)
  else
    some (.inl (some (.int ((-1)))), P)
def lay_X1_addPhone : Nat → List Value → Option (xL × List Value)
  | 0, [a0, a1, a2, a3, a4] => some ([some a0, some a1, some a2, some a3, some a4, none], [])
  | _, _ => none
def f_X1_addPhone : Nat → Nat → List Value → xH → xO
  | 0 => fun _ _ _ => none
  | n + 1 => fun pc env P => match pc, env with
    | 0, [.ref a0, .int a1, .int a2, .int a3, .int a4] => b_X1_addPhone_0 n (f_X1_addPhone n) a0 a1 a2 a3 a4 P
    | _, _ => none
set_option maxHeartbeats 2000000 in
set_option maxRecDepth 20000 in
theorem t_X1_addPhone_0 {G : xG} {l : Launch} (hl : l.stackTraces = false) {n : Nat} {rec : Nat → List Value → xH → xO} (hrec : ∀ pc env P z, rec pc env P = some z → ∀ L st, lay_X1_addPhone pc env = some (L, st) → ∀ Q : xR → xH → Prop, Q z.1 z.2 → Wp G l 3 mX1_addPhone pc L st P Q) {a0 a1 a2 a3 a4} {P : xH} {z : xR × xH} (h : b_X1_addPhone_0 n rec a0 a1 a2 a3 a4 P = some z) {Q : xR → xH → Prop} (hQ : Q z.1 z.2) : Wp G l 3 mX1_addPhone 0 [some (.ref a0), some (.int a1), some (.int a2), some (.int a3), some (.int a4), none] [] P Q := by
  unfold b_X1_addPhone_0 at h
  refine x_aload_nr dX1_addPhone_0 rfl ?_
  obtain ⟨v1, e2, h⟩ := Option.bind_eq_some_iff.mp h
  refine k_rI e2 dX1_addPhone_1 f_X1_60 ?_
  refine x_istore dX1_addPhone_4 (Nat.le_of_ble_eq_true rfl) ?_
  refine x_iload dX1_addPhone_6 rfl ?_
  refine x_bipush 10 dX1_addPhone_8 (by decide) ?_
  refine x_icmp_lt 15 dX1_addPhone_10 (by decide) (fun q31 => ?_) (fun q31 => ?_)
  · rw [if_pos q31] at h
    refine x_aload_nr dX1_addPhone_15 rfl ?_
    obtain ⟨v3, e4, h⟩ := Option.bind_eq_some_iff.mp h
    refine k_rA e4 dX1_addPhone_16 f_X1_13 ?_
    refine x_iconst 0 dX1_addPhone_19 (by decide) ?_
    obtain ⟨v5, e6, h⟩ := Option.bind_eq_some_iff.mp h
    refine k_aA e6 dX1_addPhone_20 ?_
    refine x_iload dX1_addPhone_21 rfl ?_
    refine x_iload_n dX1_addPhone_23 rfl ?_
    obtain ⟨P7, e8, h⟩ := Option.bind_eq_some_iff.mp h
    refine k_sI e8 dX1_addPhone_24 ?_
    refine x_aload_nr dX1_addPhone_25 rfl ?_
    obtain ⟨v9, e10, h⟩ := Option.bind_eq_some_iff.mp h
    refine k_rA e10 dX1_addPhone_26 f_X1_13 ?_
    refine x_iconst 1 dX1_addPhone_29 (by decide) ?_
    obtain ⟨v11, e12, h⟩ := Option.bind_eq_some_iff.mp h
    refine k_aA e12 dX1_addPhone_30 ?_
    refine x_iload dX1_addPhone_31 rfl ?_
    refine x_iload_n dX1_addPhone_33 rfl ?_
    obtain ⟨P13, e14, h⟩ := Option.bind_eq_some_iff.mp h
    refine k_sI e14 dX1_addPhone_34 ?_
    refine x_aload_nr dX1_addPhone_35 rfl ?_
    obtain ⟨v15, e16, h⟩ := Option.bind_eq_some_iff.mp h
    refine k_rA e16 dX1_addPhone_36 f_X1_13 ?_
    refine x_iconst 3 dX1_addPhone_39 (by decide) ?_
    obtain ⟨v17, e18, h⟩ := Option.bind_eq_some_iff.mp h
    refine k_aA e18 dX1_addPhone_40 ?_
    refine x_iload dX1_addPhone_41 rfl ?_
    refine x_iload_n dX1_addPhone_43 rfl ?_
    obtain ⟨P19, e20, h⟩ := Option.bind_eq_some_iff.mp h
    refine k_sI e20 dX1_addPhone_44 ?_
    refine x_aload_nr dX1_addPhone_45 rfl ?_
    obtain ⟨v21, e22, h⟩ := Option.bind_eq_some_iff.mp h
    refine k_rA e22 dX1_addPhone_46 f_X1_13 ?_
    refine x_iconst 4 dX1_addPhone_49 (by decide) ?_
    obtain ⟨v23, e24, h⟩ := Option.bind_eq_some_iff.mp h
    refine k_aA e24 dX1_addPhone_50 ?_
    refine x_iload dX1_addPhone_51 rfl ?_
    refine x_iload dX1_addPhone_53 rfl ?_
    obtain ⟨P25, e26, h⟩ := Option.bind_eq_some_iff.mp h
    refine k_sI e26 dX1_addPhone_55 ?_
    refine x_aload_nr dX1_addPhone_56 rfl ?_
    refine x_dup dX1_addPhone_57 rfl ?_
    obtain ⟨v27, e28, h⟩ := Option.bind_eq_some_iff.mp h
    refine k_rI e28 dX1_addPhone_58 f_X1_60 ?_
    refine x_iconst 1 dX1_addPhone_61 (by decide) ?_
    refine x_iadd dX1_addPhone_62 ?_
    obtain ⟨P29, e30, h⟩ := Option.bind_eq_some_iff.mp h
    refine k_wI e30 dX1_addPhone_63 f_X1_60 (Or.inl (by decide)) rfl ?_
    refine x_iload dX1_addPhone_66 rfl ?_
    cases h
    exact x_iret .int rfl rfl dX1_addPhone_68 hQ
  · rw [if_neg q31] at h
    refine x_iconst (-1) dX1_addPhone_13 (by decide) ?_
    cases h
    exact x_iret .int rfl rfl dX1_addPhone_14 hQ
theorem s_X1_addPhone {G : xG} {l : Launch} (hl : l.stackTraces = false) : ∀ n pc env P z, f_X1_addPhone n pc env P = some z → ∀ L st, lay_X1_addPhone pc env = some (L, st) → ∀ Q : xR → xH → Prop, Q z.1 z.2 → Wp G l 3 mX1_addPhone pc L st P Q := by
  intro n
  induction n with
  | zero => intro pc env P z h; cases h
  | succ n ih =>
    intro pc env P z h L st hlay Q hQ
    unfold f_X1_addPhone at h
    split at h
    · cases hlay
      exact t_X1_addPhone_0 hl ih h hQ
    · cases h
theorem c_X1_addPhone {G : xG} {l : Launch} (hl : l.stackTraces = false) {n : Nat} {as : List Value} {P : xH} {z : xR × xH} (h : f_X1_addPhone n 0 as P = some z) : Ct G l 3 mX1_addPhone as P (fun r P1 => (r, P1) = z) := by
  cases n with
  | zero => cases h
  | succ n =>
    unfold f_X1_addPhone at h
    split at h
    · exact Ct.of hl (by decide +kernel) wc_X1_addPhone (Nat.le_of_ble_eq_true rfl) (t_X1_addPhone_0 hl (s_X1_addPhone hl _) h rfl)
    all_goals first | (cases h; done) | (rename_i q9 _; exact absurd q9 (by decide)) | (rename_i q9; exact absurd q9 (by decide)) | contradiction
/-! QuakeNet.phone(IIII)I -/
def b_X10_phone_0 (n : Nat) (rec : Nat → List Value → xH → xO) (a0 : Nat) (a1 : Int32) (a2 : Int32) (a3 : Int32) (a4 : Int32) (P : xH) : xO :=
  (f_X10_needPlace n 0 [.int a1] P).bind fun r2 => xUt r2 fun P1 =>
  (f_X10_needWithin n 0 [.int a2, .int 0, .int 1000] P1).bind fun r5 => xUt r5 fun P4 =>
  (f_X10_needWithin n 0 [.int a3, .int 1, .int 12] P4).bind fun r8 => xUt r8 fun P7 =>
  (f_X10_needWithin n 0 [.int a4, .int 0, .int 9] P7).bind fun r11 => xUt r11 fun P10 =>
  (rA P10 a0 10 1).bind fun v13 =>
  (rA P10 v13 7 3).bind fun v15 =>
  (rI P10 v15 1 3).bind fun v17 =>
  (f_X10_needSpace n 0 [.int v17, .int 10] P10).bind fun r20 => xUt r20 fun P19 =>
  (kO P19 a0 10).bind fun _ =>
  (f_X10_needTickZero n 0 [.ref a0] P19).bind fun r23 => xUt r23 fun P22 =>
  (rA P22 a0 10 1).bind fun v26 =>
  (rA P22 v26 7 3).bind fun v28 =>
  (kO P22 v28 1).bind fun _ =>
  (f_X1_addPhone n 0 [.ref v28, .int a1, .int a2, .int a3, .int a4] P22).bind fun r31 => xI r31 fun v33 P30 =>
  some (.inl (some (.int v33)), P30)
def lay_X10_phone : Nat → List Value → Option (xL × List Value)
  | 0, [a0, a1, a2, a3, a4] => some ([some a0, some a1, some a2, some a3, some a4], [])
  | _, _ => none
def f_X10_phone : Nat → Nat → List Value → xH → xO
  | 0 => fun _ _ _ => none
  | n + 1 => fun pc env P => match pc, env with
    | 0, [.ref a0, .int a1, .int a2, .int a3, .int a4] => b_X10_phone_0 n (f_X10_phone n) a0 a1 a2 a3 a4 P
    | _, _ => none
set_option maxHeartbeats 2000000 in
set_option maxRecDepth 20000 in
theorem t_X10_phone_0 {G : xG} {l : Launch} (hl : l.stackTraces = false) {n : Nat} {rec : Nat → List Value → xH → xO} (hrec : ∀ pc env P z, rec pc env P = some z → ∀ L st, lay_X10_phone pc env = some (L, st) → ∀ Q : xR → xH → Prop, Q z.1 z.2 → Wp G l 10 mX10_phone pc L st P Q) {a0 a1 a2 a3 a4} {P : xH} {z : xR × xH} (h : b_X10_phone_0 n rec a0 a1 a2 a3 a4 P = some z) {Q : xR → xH → Prop} (hQ : Q z.1 z.2) : Wp G l 10 mX10_phone 0 [some (.ref a0), some (.int a1), some (.int a2), some (.int a3), some (.int a4)] [] P Q := by
  unfold b_X10_phone_0 at h
  refine x_iload_n dX10_phone_0 rfl ?_
  obtain ⟨r2, e3, h⟩ := Option.bind_eq_some_iff.mp h
  replace h := xUt_ok h
  rcases h with ⟨P1, hr9, h⟩ | ⟨i8, P8, rfl, rfl⟩
  · subst hr9
    refine x_callS (c_X10_needPlace hl e3) dX10_phone_1 cw_X10_needPlace wl_X10_64 ws_X10_needPlace rfl (by omega) (by decide) rfl (Nat.le_of_ble_eq_true rfl) rfl (fun v9 P9 hq9 => ?_) (fun i9 P9 hq9 => by cases hq9)
    cases hq9
    refine x_iload_n dX10_phone_4 rfl ?_
    refine x_iconst 0 dX10_phone_5 (by decide) ?_
    refine x_sipush 1000 dX10_phone_6 (by decide) ?_
    obtain ⟨r5, e6, h⟩ := Option.bind_eq_some_iff.mp h
    replace h := xUt_ok h
    rcases h with ⟨P4, hr9, h⟩ | ⟨i8, P8, rfl, rfl⟩
    · subst hr9
      refine x_callS (c_X10_needWithin hl e6) dX10_phone_9 cw_X10_needWithin wl_X10_67 ws_X10_needWithin rfl (by omega) (by decide) rfl (Nat.le_of_ble_eq_true rfl) rfl (fun v9 P9 hq9 => ?_) (fun i9 P9 hq9 => by cases hq9)
      cases hq9
      refine x_iload_n dX10_phone_12 rfl ?_
      refine x_iconst 1 dX10_phone_13 (by decide) ?_
      refine x_bipush 12 dX10_phone_14 (by decide) ?_
      obtain ⟨r8, e9, h⟩ := Option.bind_eq_some_iff.mp h
      replace h := xUt_ok h
      rcases h with ⟨P7, hr9, h⟩ | ⟨i8, P8, rfl, rfl⟩
      · subst hr9
        refine x_callS (c_X10_needWithin hl e9) dX10_phone_16 cw_X10_needWithin wl_X10_67 ws_X10_needWithin rfl (by omega) (by decide) rfl (Nat.le_of_ble_eq_true rfl) rfl (fun v9 P9 hq9 => ?_) (fun i9 P9 hq9 => by cases hq9)
        cases hq9
        refine x_iload dX10_phone_19 rfl ?_
        refine x_iconst 0 dX10_phone_21 (by decide) ?_
        refine x_bipush 9 dX10_phone_22 (by decide) ?_
        obtain ⟨r11, e12, h⟩ := Option.bind_eq_some_iff.mp h
        replace h := xUt_ok h
        rcases h with ⟨P10, hr9, h⟩ | ⟨i8, P8, rfl, rfl⟩
        · subst hr9
          refine x_callS (c_X10_needWithin hl e12) dX10_phone_24 cw_X10_needWithin wl_X10_67 ws_X10_needWithin rfl (by omega) (by decide) rfl (Nat.le_of_ble_eq_true rfl) rfl (fun v9 P9 hq9 => ?_) (fun i9 P9 hq9 => by cases hq9)
          cases hq9
          refine x_aload_nr dX10_phone_27 rfl ?_
          obtain ⟨v13, e14, h⟩ := Option.bind_eq_some_iff.mp h
          refine k_rA e14 dX10_phone_28 f_X10_19 ?_
          obtain ⟨v15, e16, h⟩ := Option.bind_eq_some_iff.mp h
          refine k_rA e16 dX10_phone_31 f_X10_42 ?_
          obtain ⟨v17, e18, h⟩ := Option.bind_eq_some_iff.mp h
          refine k_rI e18 dX10_phone_34 f_X10_71 ?_
          refine x_bipush 10 dX10_phone_37 (by decide) ?_
          obtain ⟨r20, e21, h⟩ := Option.bind_eq_some_iff.mp h
          replace h := xUt_ok h
          rcases h with ⟨P19, hr9, h⟩ | ⟨i8, P8, rfl, rfl⟩
          · subst hr9
            refine x_callS (c_X10_needSpace hl e21) dX10_phone_39 cw_X10_needSpace wl_X10_74 ws_X10_needSpace rfl (by omega) (by decide) rfl (Nat.le_of_ble_eq_true rfl) rfl (fun v9 P9 hq9 => ?_) (fun i9 P9 hq9 => by cases hq9)
            cases hq9
            refine x_aload_nr dX10_phone_42 rfl ?_
            obtain ⟨_, e25, h⟩ := Option.bind_eq_some_iff.mp h
            obtain ⟨fse25, e25⟩ := kO_ok e25
            obtain ⟨r23, e24, h⟩ := Option.bind_eq_some_iff.mp h
            replace h := xUt_ok h
            rcases h with ⟨P22, hr9, h⟩ | ⟨i8, P8, rfl, rfl⟩
            · subst hr9
              refine x_callV (c_X10_needTickZero hl e24) dX10_phone_43 cw_X10_needTickZero wl_X10_78 wi_X10_needTickZero wse_X10_needTickZero rfl e25 (by decide) rfl (by omega) (by decide) rfl (Nat.le_of_ble_eq_true rfl) rfl (fun v9 P9 hq9 => ?_) (fun i9 P9 hq9 => by cases hq9)
              cases hq9
              refine x_aload_nr dX10_phone_46 rfl ?_
              obtain ⟨v26, e27, h⟩ := Option.bind_eq_some_iff.mp h
              refine k_rA e27 dX10_phone_47 f_X10_19 ?_
              obtain ⟨v28, e29, h⟩ := Option.bind_eq_some_iff.mp h
              refine k_rA e29 dX10_phone_50 f_X10_42 ?_
              refine x_iload_n dX10_phone_53 rfl ?_
              refine x_iload_n dX10_phone_54 rfl ?_
              refine x_iload_n dX10_phone_55 rfl ?_
              refine x_iload dX10_phone_56 rfl ?_
              obtain ⟨_, e34, h⟩ := Option.bind_eq_some_iff.mp h
              obtain ⟨fse34, e34⟩ := kO_ok e34
              obtain ⟨r31, e32, h⟩ := Option.bind_eq_some_iff.mp h
              replace h := xI_ok h
              obtain ⟨v33, P30, rfl, h⟩ := h
              refine x_callV (c_X1_addPhone hl e32) dX10_phone_58 cw_X1_addPhone wl_X10_81 wi_X1_addPhone wse_X1_addPhone rfl e34 (by decide) rfl (by omega) (by decide) rfl (Nat.le_of_ble_eq_true rfl) rfl (fun v9 P9 hq9 => ?_) (fun i9 P9 hq9 => by cases hq9)
              cases hq9
              cases h
              exact x_iret .int rfl rfl dX10_phone_61 hQ
            · exact x_callV (c_X10_needTickZero hl e24) dX10_phone_43 cw_X10_needTickZero wl_X10_78 wi_X10_needTickZero wse_X10_needTickZero rfl e25 (by decide) rfl (by omega) (by decide) rfl (Nat.le_of_ble_eq_true rfl) rfl (fun v9 P9 hq9 => by cases hq9) (fun i9 P9 hq9 => by cases hq9; exact hQ)
          · exact x_callS (c_X10_needSpace hl e21) dX10_phone_39 cw_X10_needSpace wl_X10_74 ws_X10_needSpace rfl (by omega) (by decide) rfl (Nat.le_of_ble_eq_true rfl) rfl (fun v9 P9 hq9 => by cases hq9) (fun i9 P9 hq9 => by cases hq9; exact hQ)
        · exact x_callS (c_X10_needWithin hl e12) dX10_phone_24 cw_X10_needWithin wl_X10_67 ws_X10_needWithin rfl (by omega) (by decide) rfl (Nat.le_of_ble_eq_true rfl) rfl (fun v9 P9 hq9 => by cases hq9) (fun i9 P9 hq9 => by cases hq9; exact hQ)
      · exact x_callS (c_X10_needWithin hl e9) dX10_phone_16 cw_X10_needWithin wl_X10_67 ws_X10_needWithin rfl (by omega) (by decide) rfl (Nat.le_of_ble_eq_true rfl) rfl (fun v9 P9 hq9 => by cases hq9) (fun i9 P9 hq9 => by cases hq9; exact hQ)
    · exact x_callS (c_X10_needWithin hl e6) dX10_phone_9 cw_X10_needWithin wl_X10_67 ws_X10_needWithin rfl (by omega) (by decide) rfl (Nat.le_of_ble_eq_true rfl) rfl (fun v9 P9 hq9 => by cases hq9) (fun i9 P9 hq9 => by cases hq9; exact hQ)
  · exact x_callS (c_X10_needPlace hl e3) dX10_phone_1 cw_X10_needPlace wl_X10_64 ws_X10_needPlace rfl (by omega) (by decide) rfl (Nat.le_of_ble_eq_true rfl) rfl (fun v9 P9 hq9 => by cases hq9) (fun i9 P9 hq9 => by cases hq9; exact hQ)
theorem s_X10_phone {G : xG} {l : Launch} (hl : l.stackTraces = false) : ∀ n pc env P z, f_X10_phone n pc env P = some z → ∀ L st, lay_X10_phone pc env = some (L, st) → ∀ Q : xR → xH → Prop, Q z.1 z.2 → Wp G l 10 mX10_phone pc L st P Q := by
  intro n
  induction n with
  | zero => intro pc env P z h; cases h
  | succ n ih =>
    intro pc env P z h L st hlay Q hQ
    unfold f_X10_phone at h
    split at h
    · cases hlay
      exact t_X10_phone_0 hl ih h hQ
    · cases h
theorem c_X10_phone {G : xG} {l : Launch} (hl : l.stackTraces = false) {n : Nat} {as : List Value} {P : xH} {z : xR × xH} (h : f_X10_phone n 0 as P = some z) : Ct G l 10 mX10_phone as P (fun r P1 => (r, P1) = z) := by
  cases n with
  | zero => cases h
  | succ n =>
    unfold f_X10_phone at h
    split at h
    · exact Ct.of hl (by decide +kernel) wc_X10_phone (Nat.le_of_ble_eq_true rfl) (t_X10_phone_0 hl (s_X10_phone hl _) h rfl)
    all_goals first | (cases h; done) | (rename_i q9 _; exact absurd q9 (by decide)) | (rename_i q9; exact absurd q9 (by decide)) | contradiction
/-! QuakeNet.needPhone(I)V -/
def b_X10_needPhone_0 (n : Nat) (rec : Nat → List Value → xH → xO) (a0 : Nat) (a1 : Int32) (P : xH) : xO :=
  (rA P a0 10 1).bind fun v1 =>
  (rA P v1 7 3).bind fun v3 =>
  (rI P v3 1 3).bind fun v5 =>
  (f_X10_needIndex n 0 [.int a1, .int v5] P).bind fun r8 => xUt r8 fun P7 =>
  some (.inl none, P7)
def lay_X10_needPhone : Nat → List Value → Option (xL × List Value)
  | 0, [a0, a1] => some ([some a0, some a1], [])
  | _, _ => none
def f_X10_needPhone : Nat → Nat → List Value → xH → xO
  | 0 => fun _ _ _ => none
  | n + 1 => fun pc env P => match pc, env with
    | 0, [.ref a0, .int a1] => b_X10_needPhone_0 n (f_X10_needPhone n) a0 a1 P
    | _, _ => none
set_option maxHeartbeats 2000000 in
set_option maxRecDepth 20000 in
theorem t_X10_needPhone_0 {G : xG} {l : Launch} (hl : l.stackTraces = false) {n : Nat} {rec : Nat → List Value → xH → xO} (hrec : ∀ pc env P z, rec pc env P = some z → ∀ L st, lay_X10_needPhone pc env = some (L, st) → ∀ Q : xR → xH → Prop, Q z.1 z.2 → Wp G l 9 mX10_needPhone pc L st P Q) {a0 a1} {P : xH} {z : xR × xH} (h : b_X10_needPhone_0 n rec a0 a1 P = some z) {Q : xR → xH → Prop} (hQ : Q z.1 z.2) : Wp G l 9 mX10_needPhone 0 [some (.ref a0), some (.int a1)] [] P Q := by
  unfold b_X10_needPhone_0 at h
  refine x_iload_n dX10_needPhone_0 rfl ?_
  refine x_aload_nr dX10_needPhone_1 rfl ?_
  obtain ⟨v1, e2, h⟩ := Option.bind_eq_some_iff.mp h
  refine k_rA e2 dX10_needPhone_2 f_X10_19 ?_
  obtain ⟨v3, e4, h⟩ := Option.bind_eq_some_iff.mp h
  refine k_rA e4 dX10_needPhone_5 f_X10_42 ?_
  obtain ⟨v5, e6, h⟩ := Option.bind_eq_some_iff.mp h
  refine k_rI e6 dX10_needPhone_8 f_X10_71 ?_
  obtain ⟨r8, e9, h⟩ := Option.bind_eq_some_iff.mp h
  replace h := xUt_ok h
  rcases h with ⟨P7, hr9, h⟩ | ⟨i8, P8, rfl, rfl⟩
  · subst hr9
    refine x_callS (c_X10_needIndex hl e9) dX10_needPhone_11 cw_X10_needIndex wl_X10_87 ws_X10_needIndex rfl (by omega) (by decide) rfl (Nat.le_of_ble_eq_true rfl) rfl (fun v9 P9 hq9 => ?_) (fun i9 P9 hq9 => by cases hq9)
    cases hq9
    cases h
    exact x_ret rfl dX10_needPhone_14 hQ
  · exact x_callS (c_X10_needIndex hl e9) dX10_needPhone_11 cw_X10_needIndex wl_X10_87 ws_X10_needIndex rfl (by omega) (by decide) rfl (Nat.le_of_ble_eq_true rfl) rfl (fun v9 P9 hq9 => by cases hq9) (fun i9 P9 hq9 => by cases hq9; exact hQ)
theorem s_X10_needPhone {G : xG} {l : Launch} (hl : l.stackTraces = false) : ∀ n pc env P z, f_X10_needPhone n pc env P = some z → ∀ L st, lay_X10_needPhone pc env = some (L, st) → ∀ Q : xR → xH → Prop, Q z.1 z.2 → Wp G l 9 mX10_needPhone pc L st P Q := by
  intro n
  induction n with
  | zero => intro pc env P z h; cases h
  | succ n ih =>
    intro pc env P z h L st hlay Q hQ
    unfold f_X10_needPhone at h
    split at h
    · cases hlay
      exact t_X10_needPhone_0 hl ih h hQ
    · cases h
theorem c_X10_needPhone {G : xG} {l : Launch} (hl : l.stackTraces = false) {n : Nat} {as : List Value} {P : xH} {z : xR × xH} (h : f_X10_needPhone n 0 as P = some z) : Ct G l 9 mX10_needPhone as P (fun r P1 => (r, P1) = z) := by
  cases n with
  | zero => cases h
  | succ n =>
    unfold f_X10_needPhone at h
    split at h
    · exact Ct.of hl (by decide +kernel) wc_X10_needPhone (Nat.le_of_ble_eq_true rfl) (t_X10_needPhone_0 hl (s_X10_needPhone hl _) h rfl)
    all_goals first | (cases h; done) | (rename_i q9 _; exact absurd q9 (by decide)) | (rename_i q9; exact absurd q9 (by decide)) | contradiction
/-! QuakeNet$Walks.add(IIII)I -/
def b_X8_add_0 (n : Nat) (rec : Nat → List Value → xH → xO) (a0 : Nat) (a1 : Int32) (a2 : Int32) (a3 : Int32) (a4 : Int32) (P : xH) : xO :=
  (rA P a0 8 3).bind fun v1 =>
  (aI P v1 a1).bind fun v3 =>
  if v3 < 60 then
    (rA P a0 8 0).bind fun v5 =>
    (aA P v5 a1).bind fun v7 =>
    (sI P v7 v3 a2).bind fun P9 =>
    (rA P9 a0 8 1).bind fun v11 =>
    (aA P9 v11 a1).bind fun v13 =>
    (sI P9 v13 v3 a3).bind fun P15 =>
    (rA P15 a0 8 2).bind fun v17 =>
    (aA P15 v17 a1).bind fun v19 =>
    (sI P15 v19 v3 a4).bind fun P21 =>
    (rA P21 a0 8 3).bind fun v23 =>
    (sI P21 v23 a1 ((v3 + 1))).bind fun P25 =>
    (rA P25 a0 8 3).bind fun v27 =>
    (aI P25 v27 a1).bind fun v29 =>
    some (.inl (some (.int v29)), P25)
  else
    some (.inl (some (.int ((-1)))), P)
def lay_X8_add : Nat → List Value → Option (xL × List Value)
  | 0, [a0, a1, a2, a3, a4] => some ([some a0, some a1, some a2, some a3, some a4, none], [])
  | _, _ => none
def f_X8_add : Nat → Nat → List Value → xH → xO
  | 0 => fun _ _ _ => none
  | n + 1 => fun pc env P => match pc, env with
    | 0, [.ref a0, .int a1, .int a2, .int a3, .int a4] => b_X8_add_0 n (f_X8_add n) a0 a1 a2 a3 a4 P
    | _, _ => none
set_option maxHeartbeats 2000000 in
set_option maxRecDepth 20000 in
theorem t_X8_add_0 {G : xG} {l : Launch} (hl : l.stackTraces = false) {n : Nat} {rec : Nat → List Value → xH → xO} (hrec : ∀ pc env P z, rec pc env P = some z → ∀ L st, lay_X8_add pc env = some (L, st) → ∀ Q : xR → xH → Prop, Q z.1 z.2 → Wp G l 3 mX8_add pc L st P Q) {a0 a1 a2 a3 a4} {P : xH} {z : xR × xH} (h : b_X8_add_0 n rec a0 a1 a2 a3 a4 P = some z) {Q : xR → xH → Prop} (hQ : Q z.1 z.2) : Wp G l 3 mX8_add 0 [some (.ref a0), some (.int a1), some (.int a2), some (.int a3), some (.int a4), none] [] P Q := by
  unfold b_X8_add_0 at h
  refine x_aload_nr dX8_add_0 rfl ?_
  obtain ⟨v1, e2, h⟩ := Option.bind_eq_some_iff.mp h
  refine k_rA e2 dX8_add_1 f_X8_22 ?_
  refine x_iload_n dX8_add_4 rfl ?_
  obtain ⟨v3, e4, h⟩ := Option.bind_eq_some_iff.mp h
  refine k_aI e4 dX8_add_5 ?_
  refine x_istore dX8_add_6 (Nat.le_of_ble_eq_true rfl) ?_
  refine x_iload dX8_add_8 rfl ?_
  refine x_bipush 60 dX8_add_10 (by decide) ?_
  refine x_icmp_lt 17 dX8_add_12 (by decide) (fun q31 => ?_) (fun q31 => ?_)
  · rw [if_pos q31] at h
    refine x_aload_nr dX8_add_17 rfl ?_
    obtain ⟨v5, e6, h⟩ := Option.bind_eq_some_iff.mp h
    refine k_rA e6 dX8_add_18 f_X8_13 ?_
    refine x_iload_n dX8_add_21 rfl ?_
    obtain ⟨v7, e8, h⟩ := Option.bind_eq_some_iff.mp h
    refine k_aA e8 dX8_add_22 ?_
    refine x_iload dX8_add_23 rfl ?_
    refine x_iload_n dX8_add_25 rfl ?_
    obtain ⟨P9, e10, h⟩ := Option.bind_eq_some_iff.mp h
    refine k_sI e10 dX8_add_26 ?_
    refine x_aload_nr dX8_add_27 rfl ?_
    obtain ⟨v11, e12, h⟩ := Option.bind_eq_some_iff.mp h
    refine k_rA e12 dX8_add_28 f_X8_16 ?_
    refine x_iload_n dX8_add_31 rfl ?_
    obtain ⟨v13, e14, h⟩ := Option.bind_eq_some_iff.mp h
    refine k_aA e14 dX8_add_32 ?_
    refine x_iload dX8_add_33 rfl ?_
    refine x_iload_n dX8_add_35 rfl ?_
    obtain ⟨P15, e16, h⟩ := Option.bind_eq_some_iff.mp h
    refine k_sI e16 dX8_add_36 ?_
    refine x_aload_nr dX8_add_37 rfl ?_
    obtain ⟨v17, e18, h⟩ := Option.bind_eq_some_iff.mp h
    refine k_rA e18 dX8_add_38 f_X8_19 ?_
    refine x_iload_n dX8_add_41 rfl ?_
    obtain ⟨v19, e20, h⟩ := Option.bind_eq_some_iff.mp h
    refine k_aA e20 dX8_add_42 ?_
    refine x_iload dX8_add_43 rfl ?_
    refine x_iload dX8_add_45 rfl ?_
    obtain ⟨P21, e22, h⟩ := Option.bind_eq_some_iff.mp h
    refine k_sI e22 dX8_add_47 ?_
    refine x_aload_nr dX8_add_48 rfl ?_
    obtain ⟨v23, e24, h⟩ := Option.bind_eq_some_iff.mp h
    refine k_rA e24 dX8_add_49 f_X8_22 ?_
    refine x_iload_n dX8_add_52 rfl ?_
    refine x_iload dX8_add_53 rfl ?_
    refine x_iconst 1 dX8_add_55 (by decide) ?_
    refine x_iadd dX8_add_56 ?_
    obtain ⟨P25, e26, h⟩ := Option.bind_eq_some_iff.mp h
    refine k_sI e26 dX8_add_57 ?_
    refine x_aload_nr dX8_add_58 rfl ?_
    obtain ⟨v27, e28, h⟩ := Option.bind_eq_some_iff.mp h
    refine k_rA e28 dX8_add_59 f_X8_22 ?_
    refine x_iload_n dX8_add_62 rfl ?_
    obtain ⟨v29, e30, h⟩ := Option.bind_eq_some_iff.mp h
    refine k_aI e30 dX8_add_63 ?_
    cases h
    exact x_iret .int rfl rfl dX8_add_64 hQ
  · rw [if_neg q31] at h
    refine x_iconst (-1) dX8_add_15 (by decide) ?_
    cases h
    exact x_iret .int rfl rfl dX8_add_16 hQ
theorem s_X8_add {G : xG} {l : Launch} (hl : l.stackTraces = false) : ∀ n pc env P z, f_X8_add n pc env P = some z → ∀ L st, lay_X8_add pc env = some (L, st) → ∀ Q : xR → xH → Prop, Q z.1 z.2 → Wp G l 3 mX8_add pc L st P Q := by
  intro n
  induction n with
  | zero => intro pc env P z h; cases h
  | succ n ih =>
    intro pc env P z h L st hlay Q hQ
    unfold f_X8_add at h
    split at h
    · cases hlay
      exact t_X8_add_0 hl ih h hQ
    · cases h
theorem c_X8_add {G : xG} {l : Launch} (hl : l.stackTraces = false) {n : Nat} {as : List Value} {P : xH} {z : xR × xH} (h : f_X8_add n 0 as P = some z) : Ct G l 3 mX8_add as P (fun r P1 => (r, P1) = z) := by
  cases n with
  | zero => cases h
  | succ n =>
    unfold f_X8_add at h
    split at h
    · exact Ct.of hl (by decide +kernel) wc_X8_add (Nat.le_of_ble_eq_true rfl) (t_X8_add_0 hl (s_X8_add hl _) h rfl)
    all_goals first | (cases h; done) | (rename_i q9 _; exact absurd q9 (by decide)) | (rename_i q9; exact absurd q9 (by decide)) | contradiction
/-! QuakeNet.move(IIII)I -/
def b_X10_move_0 (n : Nat) (rec : Nat → List Value → xH → xO) (a0 : Nat) (a1 : Int32) (a2 : Int32) (a3 : Int32) (a4 : Int32) (P : xH) : xO :=
  (f_X10_needIndex n 0 [.int a1, .int 4] P).bind fun r2 => xUt r2 fun P1 =>
  (kO P1 a0 10).bind fun _ =>
  (f_X10_needPhone n 0 [.ref a0, .int a2] P1).bind fun r5 => xUt r5 fun P4 =>
  (f_X10_needPlace n 0 [.int a4] P4).bind fun r9 => xUt r9 fun P8 =>
  (rA P8 a0 10 1).bind fun v11 =>
  (rA P8 v11 7 3).bind fun v13 =>
  (rI P8 v13 1 2).bind fun v15 =>
  (f_X10_needWithin n 0 [.int a3, .int ((v15 + 1)), .int 400] P8).bind fun r18 => xUt r18 fun P17 =>
  (rA P17 a0 10 1).bind fun v20 =>
  (rA P17 v20 7 2).bind fun v22 =>
  (kO P17 v22 8).bind fun _ =>
  (f_X8_add n 0 [.ref v22, .int a1, .int a2, .int a3, .int a4] P17).bind fun r25 => xI r25 fun v27 P24 =>
  some (.inl (some (.int v27)), P24)
def lay_X10_move : Nat → List Value → Option (xL × List Value)
  | 0, [a0, a1, a2, a3, a4] => some ([some a0, some a1, some a2, some a3, some a4], [])
  | _, _ => none
def f_X10_move : Nat → Nat → List Value → xH → xO
  | 0 => fun _ _ _ => none
  | n + 1 => fun pc env P => match pc, env with
    | 0, [.ref a0, .int a1, .int a2, .int a3, .int a4] => b_X10_move_0 n (f_X10_move n) a0 a1 a2 a3 a4 P
    | _, _ => none
set_option maxHeartbeats 2000000 in
set_option maxRecDepth 20000 in
theorem t_X10_move_0 {G : xG} {l : Launch} (hl : l.stackTraces = false) {n : Nat} {rec : Nat → List Value → xH → xO} (hrec : ∀ pc env P z, rec pc env P = some z → ∀ L st, lay_X10_move pc env = some (L, st) → ∀ Q : xR → xH → Prop, Q z.1 z.2 → Wp G l 10 mX10_move pc L st P Q) {a0 a1 a2 a3 a4} {P : xH} {z : xR × xH} (h : b_X10_move_0 n rec a0 a1 a2 a3 a4 P = some z) {Q : xR → xH → Prop} (hQ : Q z.1 z.2) : Wp G l 10 mX10_move 0 [some (.ref a0), some (.int a1), some (.int a2), some (.int a3), some (.int a4)] [] P Q := by
  unfold b_X10_move_0 at h
  refine x_iload_n dX10_move_0 rfl ?_
  refine x_iconst 4 dX10_move_1 (by decide) ?_
  obtain ⟨r2, e3, h⟩ := Option.bind_eq_some_iff.mp h
  replace h := xUt_ok h
  rcases h with ⟨P1, hr9, h⟩ | ⟨i8, P8, rfl, rfl⟩
  · subst hr9
    refine x_callS (c_X10_needIndex hl e3) dX10_move_2 cw_X10_needIndex wl_X10_87 ws_X10_needIndex rfl (by omega) (by decide) rfl (Nat.le_of_ble_eq_true rfl) rfl (fun v9 P9 hq9 => ?_) (fun i9 P9 hq9 => by cases hq9)
    cases hq9
    refine x_aload_nr dX10_move_5 rfl ?_
    refine x_iload_n dX10_move_6 rfl ?_
    obtain ⟨_, e7, h⟩ := Option.bind_eq_some_iff.mp h
    obtain ⟨fse7, e7⟩ := kO_ok e7
    obtain ⟨r5, e6, h⟩ := Option.bind_eq_some_iff.mp h
    replace h := xUt_ok h
    rcases h with ⟨P4, hr9, h⟩ | ⟨i8, P8, rfl, rfl⟩
    · subst hr9
      refine x_callV (c_X10_needPhone hl e6) dX10_move_7 cw_X10_needPhone wl_X10_90 wi_X10_needPhone wse_X10_needPhone rfl e7 (by decide) rfl (by omega) (by decide) rfl (Nat.le_of_ble_eq_true rfl) rfl (fun v9 P9 hq9 => ?_) (fun i9 P9 hq9 => by cases hq9)
      cases hq9
      refine x_iload dX10_move_10 rfl ?_
      obtain ⟨r9, e10, h⟩ := Option.bind_eq_some_iff.mp h
      replace h := xUt_ok h
      rcases h with ⟨P8, hr9, h⟩ | ⟨i8, P8, rfl, rfl⟩
      · subst hr9
        refine x_callS (c_X10_needPlace hl e10) dX10_move_12 cw_X10_needPlace wl_X10_64 ws_X10_needPlace rfl (by omega) (by decide) rfl (Nat.le_of_ble_eq_true rfl) rfl (fun v9 P9 hq9 => ?_) (fun i9 P9 hq9 => by cases hq9)
        cases hq9
        refine x_iload_n dX10_move_15 rfl ?_
        refine x_aload_nr dX10_move_16 rfl ?_
        obtain ⟨v11, e12, h⟩ := Option.bind_eq_some_iff.mp h
        refine k_rA e12 dX10_move_17 f_X10_19 ?_
        obtain ⟨v13, e14, h⟩ := Option.bind_eq_some_iff.mp h
        refine k_rA e14 dX10_move_20 f_X10_42 ?_
        obtain ⟨v15, e16, h⟩ := Option.bind_eq_some_iff.mp h
        refine k_rI e16 dX10_move_23 f_X10_93 ?_
        refine x_iconst 1 dX10_move_26 (by decide) ?_
        refine x_iadd dX10_move_27 ?_
        refine x_sipush 400 dX10_move_28 (by decide) ?_
        obtain ⟨r18, e19, h⟩ := Option.bind_eq_some_iff.mp h
        replace h := xUt_ok h
        rcases h with ⟨P17, hr9, h⟩ | ⟨i8, P8, rfl, rfl⟩
        · subst hr9
          refine x_callS (c_X10_needWithin hl e19) dX10_move_31 cw_X10_needWithin wl_X10_67 ws_X10_needWithin rfl (by omega) (by decide) rfl (Nat.le_of_ble_eq_true rfl) rfl (fun v9 P9 hq9 => ?_) (fun i9 P9 hq9 => by cases hq9)
          cases hq9
          refine x_aload_nr dX10_move_34 rfl ?_
          obtain ⟨v20, e21, h⟩ := Option.bind_eq_some_iff.mp h
          refine k_rA e21 dX10_move_35 f_X10_19 ?_
          obtain ⟨v22, e23, h⟩ := Option.bind_eq_some_iff.mp h
          refine k_rA e23 dX10_move_38 f_X10_96 ?_
          refine x_iload_n dX10_move_41 rfl ?_
          refine x_iload_n dX10_move_42 rfl ?_
          refine x_iload_n dX10_move_43 rfl ?_
          refine x_iload dX10_move_44 rfl ?_
          obtain ⟨_, e28, h⟩ := Option.bind_eq_some_iff.mp h
          obtain ⟨fse28, e28⟩ := kO_ok e28
          obtain ⟨r25, e26, h⟩ := Option.bind_eq_some_iff.mp h
          replace h := xI_ok h
          obtain ⟨v27, P24, rfl, h⟩ := h
          refine x_callV (c_X8_add hl e26) dX10_move_46 cw_X8_add wl_X10_100 wi_X8_add wse_X8_add rfl e28 (by decide) rfl (by omega) (by decide) rfl (Nat.le_of_ble_eq_true rfl) rfl (fun v9 P9 hq9 => ?_) (fun i9 P9 hq9 => by cases hq9)
          cases hq9
          cases h
          exact x_iret .int rfl rfl dX10_move_49 hQ
        · exact x_callS (c_X10_needWithin hl e19) dX10_move_31 cw_X10_needWithin wl_X10_67 ws_X10_needWithin rfl (by omega) (by decide) rfl (Nat.le_of_ble_eq_true rfl) rfl (fun v9 P9 hq9 => by cases hq9) (fun i9 P9 hq9 => by cases hq9; exact hQ)
      · exact x_callS (c_X10_needPlace hl e10) dX10_move_12 cw_X10_needPlace wl_X10_64 ws_X10_needPlace rfl (by omega) (by decide) rfl (Nat.le_of_ble_eq_true rfl) rfl (fun v9 P9 hq9 => by cases hq9) (fun i9 P9 hq9 => by cases hq9; exact hQ)
    · exact x_callV (c_X10_needPhone hl e6) dX10_move_7 cw_X10_needPhone wl_X10_90 wi_X10_needPhone wse_X10_needPhone rfl e7 (by decide) rfl (by omega) (by decide) rfl (Nat.le_of_ble_eq_true rfl) rfl (fun v9 P9 hq9 => by cases hq9) (fun i9 P9 hq9 => by cases hq9; exact hQ)
  · exact x_callS (c_X10_needIndex hl e3) dX10_move_2 cw_X10_needIndex wl_X10_87 ws_X10_needIndex rfl (by omega) (by decide) rfl (Nat.le_of_ble_eq_true rfl) rfl (fun v9 P9 hq9 => by cases hq9) (fun i9 P9 hq9 => by cases hq9; exact hQ)
theorem s_X10_move {G : xG} {l : Launch} (hl : l.stackTraces = false) : ∀ n pc env P z, f_X10_move n pc env P = some z → ∀ L st, lay_X10_move pc env = some (L, st) → ∀ Q : xR → xH → Prop, Q z.1 z.2 → Wp G l 10 mX10_move pc L st P Q := by
  intro n
  induction n with
  | zero => intro pc env P z h; cases h
  | succ n ih =>
    intro pc env P z h L st hlay Q hQ
    unfold f_X10_move at h
    split at h
    · cases hlay
      exact t_X10_move_0 hl ih h hQ
    · cases h
theorem c_X10_move {G : xG} {l : Launch} (hl : l.stackTraces = false) {n : Nat} {as : List Value} {P : xH} {z : xR × xH} (h : f_X10_move n 0 as P = some z) : Ct G l 10 mX10_move as P (fun r P1 => (r, P1) = z) := by
  cases n with
  | zero => cases h
  | succ n =>
    unfold f_X10_move at h
    split at h
    · exact Ct.of hl (by decide +kernel) wc_X10_move (Nat.le_of_ble_eq_true rfl) (t_X10_move_0 hl (s_X10_move hl _) h rfl)
    all_goals first | (cases h; done) | (rename_i q9 _; exact absurd q9 (by decide)) | (rename_i q9; exact absurd q9 (by decide)) | contradiction
/-! QuakeNet.needGood(Z)V -/
def b_X10_needGood_0 (n : Nat) (rec : Nat → List Value → xH → xO) (a0 : Int32) (P : xH) : xO :=
  if ¬ a0 = 0 then
    some (.inl none, P)
  else
    tE P 1
def lay_X10_needGood : Nat → List Value → Option (xL × List Value)
  | 0, [a0] => some ([some a0], [])
  | _, _ => none
def f_X10_needGood : Nat → Nat → List Value → xH → xO
  | 0 => fun _ _ _ => none
  | n + 1 => fun pc env P => match pc, env with
    | 0, [.int a0] => b_X10_needGood_0 n (f_X10_needGood n) a0 P
    | _, _ => none
set_option maxHeartbeats 2000000 in
set_option maxRecDepth 20000 in
theorem t_X10_needGood_0 {G : xG} {l : Launch} (hl : l.stackTraces = false) {n : Nat} {rec : Nat → List Value → xH → xO} (hrec : ∀ pc env P z, rec pc env P = some z → ∀ L st, lay_X10_needGood pc env = some (L, st) → ∀ Q : xR → xH → Prop, Q z.1 z.2 → Wp G l 8 mX10_needGood pc L st P Q) {a0} {P : xH} {z : xR × xH} (h : b_X10_needGood_0 n rec a0 P = some z) {Q : xR → xH → Prop} (hQ : Q z.1 z.2) : Wp G l 8 mX10_needGood 0 [some (.int a0)] [] P Q := by
  unfold b_X10_needGood_0 at h
  refine x_iload_n dX10_needGood_0 rfl ?_
  refine x_if_ne 15 dX10_needGood_1 (by decide) (fun q1 => ?_) (fun q1 => ?_)
  · rw [if_pos q1] at h
    cases h
    exact x_ret rfl dX10_needGood_15 hQ
  · rw [if_neg (fun z9 => z9 q1)] at h
    unfold tE at h
    split at h
    · rename_i hr9
      cases h
      exact x_throw (k := 1) (i := 5) (names := ["java/lang/RuntimeException", "java/lang/Exception"]) rfl rfl rfl (by decide +kernel) (by decide +kernel) wk_X10_351 wini_E1 vt_X10_355 (by decide +kernel) dX10_needGood_4 dX10_needGood_7 dX10_needGood_8 dX10_needGood_11 dX10_needGood_14 (by decide) (by decide) hr9.1 hr9.2 hQ
    · cases h
theorem s_X10_needGood {G : xG} {l : Launch} (hl : l.stackTraces = false) : ∀ n pc env P z, f_X10_needGood n pc env P = some z → ∀ L st, lay_X10_needGood pc env = some (L, st) → ∀ Q : xR → xH → Prop, Q z.1 z.2 → Wp G l 8 mX10_needGood pc L st P Q := by
  intro n
  induction n with
  | zero => intro pc env P z h; cases h
  | succ n ih =>
    intro pc env P z h L st hlay Q hQ
    unfold f_X10_needGood at h
    split at h
    · cases hlay
      exact t_X10_needGood_0 hl ih h hQ
    · cases h
theorem c_X10_needGood {G : xG} {l : Launch} (hl : l.stackTraces = false) {n : Nat} {as : List Value} {P : xH} {z : xR × xH} (h : f_X10_needGood n 0 as P = some z) : Ct G l 8 mX10_needGood as P (fun r P1 => (r, P1) = z) := by
  cases n with
  | zero => cases h
  | succ n =>
    unfold f_X10_needGood at h
    split at h
    · exact Ct.of hl (by decide +kernel) wc_X10_needGood (Nat.le_of_ble_eq_true rfl) (t_X10_needGood_0 hl (s_X10_needGood hl _) h rfl)
    all_goals first | (cases h; done) | (rename_i q9 _; exact absurd q9 (by decide)) | (rename_i q9; exact absurd q9 (by decide)) | contradiction
/-! QuakeNet$Reader.fail()Z -/
def b_X3_fail_0 (n : Nat) (rec : Nat → List Value → xH → xO) (a0 : Nat) (P : xH) : xO :=
  (rI P a0 3 6).bind fun v1 =>
  (wV P a0 3 3 (.int v1)).bind fun P3 =>
  some (.inl (some (.int 0)), P3)
def lay_X3_fail : Nat → List Value → Option (xL × List Value)
  | 0, [a0] => some ([some a0], [])
  | _, _ => none
def f_X3_fail : Nat → Nat → List Value → xH → xO
  | 0 => fun _ _ _ => none
  | n + 1 => fun pc env P => match pc, env with
    | 0, [.ref a0] => b_X3_fail_0 n (f_X3_fail n) a0 P
    | _, _ => none
set_option maxHeartbeats 2000000 in
set_option maxRecDepth 20000 in
theorem t_X3_fail_0 {G : xG} {l : Launch} (hl : l.stackTraces = false) {n : Nat} {rec : Nat → List Value → xH → xO} (hrec : ∀ pc env P z, rec pc env P = some z → ∀ L st, lay_X3_fail pc env = some (L, st) → ∀ Q : xR → xH → Prop, Q z.1 z.2 → Wp G l 3 mX3_fail pc L st P Q) {a0} {P : xH} {z : xR × xH} (h : b_X3_fail_0 n rec a0 P = some z) {Q : xR → xH → Prop} (hQ : Q z.1 z.2) : Wp G l 3 mX3_fail 0 [some (.ref a0)] [] P Q := by
  unfold b_X3_fail_0 at h
  refine x_aload_nr dX3_fail_0 rfl ?_
  refine x_aload_nr dX3_fail_1 rfl ?_
  obtain ⟨v1, e2, h⟩ := Option.bind_eq_some_iff.mp h
  refine k_rI e2 dX3_fail_2 f_X3_69 ?_
  obtain ⟨P3, e4, h⟩ := Option.bind_eq_some_iff.mp h
  refine k_wI e4 dX3_fail_5 f_X3_22 (Or.inl (by decide)) rfl ?_
  refine x_iconst 0 dX3_fail_8 (by decide) ?_
  cases h
  exact x_iret .boolean rfl rfl dX3_fail_9 hQ
theorem s_X3_fail {G : xG} {l : Launch} (hl : l.stackTraces = false) : ∀ n pc env P z, f_X3_fail n pc env P = some z → ∀ L st, lay_X3_fail pc env = some (L, st) → ∀ Q : xR → xH → Prop, Q z.1 z.2 → Wp G l 3 mX3_fail pc L st P Q := by
  intro n
  induction n with
  | zero => intro pc env P z h; cases h
  | succ n ih =>
    intro pc env P z h L st hlay Q hQ
    unfold f_X3_fail at h
    split at h
    · cases hlay
      exact t_X3_fail_0 hl ih h hQ
    · cases h
theorem c_X3_fail {G : xG} {l : Launch} (hl : l.stackTraces = false) {n : Nat} {as : List Value} {P : xH} {z : xR × xH} (h : f_X3_fail n 0 as P = some z) : Ct G l 3 mX3_fail as P (fun r P1 => (r, P1) = z) := by
  cases n with
  | zero => cases h
  | succ n =>
    unfold f_X3_fail at h
    split at h
    · exact Ct.of hl (by decide +kernel) wc_X3_fail (Nat.le_of_ble_eq_true rfl) (t_X3_fail_0 hl (s_X3_fail hl _) h rfl)
    all_goals first | (cases h; done) | (rename_i q9 _; exact absurd q9 (by decide)) | (rename_i q9; exact absurd q9 (by decide)) | contradiction
/-! QuakeNet$Reader.named()I -/
def b_X3_named_0 (n : Nat) (rec : Nat → List Value → xH → xO) (a0 : Nat) (P : xH) : xO :=
  (rI P a0 3 4).bind fun v1 =>
  (rI P a0 3 6).bind fun v3 =>
  rec 12 [.ref a0, .int ((v1 - v3)), .int 0] P
def b_X3_named_12 (n : Nat) (rec : Nat → List Value → xH → xO) (a0 : Nat) (a1 : Int32) (a2 : Int32) (P : xH) : xO :=
  (sLn ((4 + 1))).bind fun v1 =>
  if v1 < ((a2 + 7)) then
    some (.inl (some (.int 22)), P)
  else
    if 7 ≤ a1 then
      some (.inl (some (.int 22)), P)
    else
      rec 32 [.ref a0, .int a1, .int a2, .int 0] P
def b_X3_named_32 (n : Nat) (rec : Nat → List Value → xH → xO) (a0 : Nat) (a1 : Int32) (a2 : Int32) (a3 : Int32) (P : xH) : xO :=
  if a1 ≤ a3 then
    rec 65 [.ref a0, .int a1, .int a2, .int a3] P
  else
    (sCh ((4 + 1)) ((a2 + a3))).bind fun v1 =>
    (rA P a0 3 1).bind fun v3 =>
    (rI P a0 3 6).bind fun v5 =>
    (aB P v3 ((v5 + a3))).bind fun v7 =>
    if ¬ v1 = v7 then
      rec 65 [.ref a0, .int a1, .int a2, .int a3] P
    else
      rec 32 [.ref a0, .int a1, .int a2, .int ((a3 + 1))] P
def b_X3_named_65 (n : Nat) (rec : Nat → List Value → xH → xO) (a0 : Nat) (a1 : Int32) (a2 : Int32) (a3 : Int32) (P : xH) : xO :=
  if ¬ a3 = a1 then
    rec 12 [.ref a0, .int a1, .int ((a2 + 7))] P
  else
    (sCh ((4 + 1)) ((a2 + a3))).bind fun v1 =>
    if ¬ v1 = 32 then
      rec 12 [.ref a0, .int a1, .int ((a2 + 7))] P
    else
      some (.inl (some (.int ((a2 / 7)))), P)
def lay_X3_named : Nat → List Value → Option (xL × List Value)
  | 0, [a0] => some ([some a0, none, none, none], [])
  | 12, [a0, a1, a2] => some ([some a0, some a1, some a2, none], [])
  | 32, [a0, a1, a2, a3] => some ([some a0, some a1, some a2, some a3], [])
  | 65, [a0, a1, a2, a3] => some ([some a0, some a1, some a2, some a3], [])
  | _, _ => none
def f_X3_named : Nat → Nat → List Value → xH → xO
  | 0 => fun _ _ _ => none
  | n + 1 => fun pc env P => match pc, env with
    | 0, [.ref a0] => b_X3_named_0 n (f_X3_named n) a0 P
    | 12, [.ref a0, .int a1, .int a2] => b_X3_named_12 n (f_X3_named n) a0 a1 a2 P
    | 32, [.ref a0, .int a1, .int a2, .int a3] => b_X3_named_32 n (f_X3_named n) a0 a1 a2 a3 P
    | 65, [.ref a0, .int a1, .int a2, .int a3] => b_X3_named_65 n (f_X3_named n) a0 a1 a2 a3 P
    | _, _ => none
set_option maxHeartbeats 2000000 in
set_option maxRecDepth 20000 in
theorem t_X3_named_0 {G : xG} {l : Launch} (hl : l.stackTraces = false) {n : Nat} {rec : Nat → List Value → xH → xO} (hrec : ∀ pc env P z, rec pc env P = some z → ∀ L st, lay_X3_named pc env = some (L, st) → ∀ Q : xR → xH → Prop, Q z.1 z.2 → Wp G l 7 mX3_named pc L st P Q) {a0} {P : xH} {z : xR × xH} (h : b_X3_named_0 n rec a0 P = some z) {Q : xR → xH → Prop} (hQ : Q z.1 z.2) : Wp G l 7 mX3_named 0 [some (.ref a0), none, none, none] [] P Q := by
  unfold b_X3_named_0 at h
  refine x_aload_nr dX3_named_0 rfl ?_
  obtain ⟨v1, e2, h⟩ := Option.bind_eq_some_iff.mp h
  refine k_rI e2 dX3_named_1 f_X3_32 ?_
  refine x_aload_nr dX3_named_4 rfl ?_
  obtain ⟨v3, e4, h⟩ := Option.bind_eq_some_iff.mp h
  refine k_rI e4 dX3_named_5 f_X3_69 ?_
  refine x_isub dX3_named_8 ?_
  refine x_istore_n dX3_named_9 (Nat.le_of_ble_eq_true rfl) ?_
  refine x_iconst 0 dX3_named_10 (by decide) ?_
  refine x_istore_n dX3_named_11 (Nat.le_of_ble_eq_true rfl) ?_
  exact Wp.mask [true, true, true, false] (hrec 12 _ _ _ h _ _ rfl _ hQ)
set_option maxHeartbeats 2000000 in
set_option maxRecDepth 20000 in
theorem t_X3_named_12 {G : xG} {l : Launch} (hl : l.stackTraces = false) {n : Nat} {rec : Nat → List Value → xH → xO} (hrec : ∀ pc env P z, rec pc env P = some z → ∀ L st, lay_X3_named pc env = some (L, st) → ∀ Q : xR → xH → Prop, Q z.1 z.2 → Wp G l 7 mX3_named pc L st P Q) {a0 a1 a2} {P : xH} {z : xR × xH} (h : b_X3_named_12 n rec a0 a1 a2 P = some z) {Q : xR → xH → Prop} (hQ : Q z.1 z.2) : Wp G l 7 mX3_named 12 [some (.ref a0), some (.int a1), some (.int a2), none] [] P Q := by
  unfold b_X3_named_12 at h
  refine x_iload_n dX3_named_12 rfl ?_
  refine x_bipush 7 dX3_named_13 (by decide) ?_
  refine x_iadd dX3_named_15 ?_
  refine x_lds (i := 4) rfl dX3_named_16 ?_
  obtain ⟨v1, e2, h⟩ := Option.bind_eq_some_iff.mp h
  refine k_sLn hl e2 dX3_named_18 wl_X3_78 (by omega) (Nat.le_of_ble_eq_true rfl) rfl ?_
  refine x_icmp_gt 94 dX3_named_21 (by decide) (fun q4 => ?_) (fun q4 => ?_)
  · rw [if_pos q4] at h
    refine x_bipush 22 dX3_named_94 (by decide) ?_
    cases h
    exact x_iret .int rfl rfl dX3_named_96 hQ
  · rw [if_neg q4] at h
    refine x_iload_n dX3_named_24 rfl ?_
    refine x_bipush 7 dX3_named_25 (by decide) ?_
    refine x_icmp_ge 94 dX3_named_27 (by decide) (fun q3 => ?_) (fun q3 => ?_)
    · rw [if_pos q3] at h
      refine x_bipush 22 dX3_named_94 (by decide) ?_
      cases h
      exact x_iret .int rfl rfl dX3_named_96 hQ
    · rw [if_neg q3] at h
      refine x_iconst 0 dX3_named_30 (by decide) ?_
      refine x_istore_n dX3_named_31 (Nat.le_of_ble_eq_true rfl) ?_
      exact Wp.mask [true, true, true, true] (hrec 32 _ _ _ h _ _ rfl _ hQ)
set_option maxHeartbeats 2000000 in
set_option maxRecDepth 20000 in
theorem t_X3_named_32 {G : xG} {l : Launch} (hl : l.stackTraces = false) {n : Nat} {rec : Nat → List Value → xH → xO} (hrec : ∀ pc env P z, rec pc env P = some z → ∀ L st, lay_X3_named pc env = some (L, st) → ∀ Q : xR → xH → Prop, Q z.1 z.2 → Wp G l 7 mX3_named pc L st P Q) {a0 a1 a2 a3} {P : xH} {z : xR × xH} (h : b_X3_named_32 n rec a0 a1 a2 a3 P = some z) {Q : xR → xH → Prop} (hQ : Q z.1 z.2) : Wp G l 7 mX3_named 32 [some (.ref a0), some (.int a1), some (.int a2), some (.int a3)] [] P Q := by
  unfold b_X3_named_32 at h
  refine x_iload_n dX3_named_32 rfl ?_
  refine x_iload_n dX3_named_33 rfl ?_
  refine x_icmp_ge 65 dX3_named_34 (by decide) (fun q10 => ?_) (fun q10 => ?_)
  · rw [if_pos q10] at h
    exact Wp.mask [true, true, true, true] (hrec 65 _ _ _ h _ _ rfl _ hQ)
  · rw [if_neg q10] at h
    refine x_lds (i := 4) rfl dX3_named_37 ?_
    refine x_iload_n dX3_named_39 rfl ?_
    refine x_iload_n dX3_named_40 rfl ?_
    refine x_iadd dX3_named_41 ?_
    obtain ⟨v1, e2, h⟩ := Option.bind_eq_some_iff.mp h
    refine k_sCh hl e2 dX3_named_42 wl_X3_82 (by omega) (Nat.le_of_ble_eq_true rfl) rfl ?_
    refine x_aload_nr dX3_named_45 rfl ?_
    obtain ⟨v3, e4, h⟩ := Option.bind_eq_some_iff.mp h
    refine k_rA e4 dX3_named_46 f_X3_18 ?_
    refine x_aload_nr dX3_named_49 rfl ?_
    obtain ⟨v5, e6, h⟩ := Option.bind_eq_some_iff.mp h
    refine k_rI e6 dX3_named_50 f_X3_69 ?_
    refine x_iload_n dX3_named_53 rfl ?_
    refine x_iadd dX3_named_54 ?_
    obtain ⟨v7, e8, h⟩ := Option.bind_eq_some_iff.mp h
    refine k_aB e8 dX3_named_55 ?_
    refine x_icmp_ne 65 dX3_named_56 (by decide) (fun q9 => ?_) (fun q9 => ?_)
    · rw [if_pos q9] at h
      exact Wp.mask [true, true, true, true] (hrec 65 _ _ _ h _ _ rfl _ hQ)
    · rw [if_neg (fun z9 => z9 q9)] at h
      refine x_iinc (a3 + 1) dX3_named_59 rfl (by rfl) ?_
      refine x_goto 32 dX3_named_62 (by decide) ?_
      exact Wp.mask [true, true, true, true] (hrec 32 _ _ _ h _ _ rfl _ hQ)
set_option maxHeartbeats 2000000 in
set_option maxRecDepth 20000 in
theorem t_X3_named_65 {G : xG} {l : Launch} (hl : l.stackTraces = false) {n : Nat} {rec : Nat → List Value → xH → xO} (hrec : ∀ pc env P z, rec pc env P = some z → ∀ L st, lay_X3_named pc env = some (L, st) → ∀ Q : xR → xH → Prop, Q z.1 z.2 → Wp G l 7 mX3_named pc L st P Q) {a0 a1 a2 a3} {P : xH} {z : xR × xH} (h : b_X3_named_65 n rec a0 a1 a2 a3 P = some z) {Q : xR → xH → Prop} (hQ : Q z.1 z.2) : Wp G l 7 mX3_named 65 [some (.ref a0), some (.int a1), some (.int a2), some (.int a3)] [] P Q := by
  unfold b_X3_named_65 at h
  refine x_iload_n dX3_named_65 rfl ?_
  refine x_iload_n dX3_named_66 rfl ?_
  refine x_icmp_ne 88 dX3_named_67 (by decide) (fun q4 => ?_) (fun q4 => ?_)
  · rw [if_pos q4] at h
    refine x_iinc (a2 + 7) dX3_named_88 rfl (by rfl) ?_
    refine x_goto 12 dX3_named_91 (by decide) ?_
    exact Wp.mask [true, true, true, false] (hrec 12 _ _ _ h _ _ rfl _ hQ)
  · rw [if_neg (fun z9 => z9 q4)] at h
    refine x_lds (i := 4) rfl dX3_named_70 ?_
    refine x_iload_n dX3_named_72 rfl ?_
    refine x_iload_n dX3_named_73 rfl ?_
    refine x_iadd dX3_named_74 ?_
    obtain ⟨v1, e2, h⟩ := Option.bind_eq_some_iff.mp h
    refine k_sCh hl e2 dX3_named_75 wl_X3_82 (by omega) (Nat.le_of_ble_eq_true rfl) rfl ?_
    refine x_bipush 32 dX3_named_78 (by decide) ?_
    refine x_icmp_ne 88 dX3_named_80 (by decide) (fun q3 => ?_) (fun q3 => ?_)
    · rw [if_pos q3] at h
      refine x_iinc (a2 + 7) dX3_named_88 rfl (by rfl) ?_
      refine x_goto 12 dX3_named_91 (by decide) ?_
      exact Wp.mask [true, true, true, false] (hrec 12 _ _ _ h _ _ rfl _ hQ)
    · rw [if_neg (fun z9 => z9 q3)] at h
      refine x_iload_n dX3_named_83 rfl ?_
      refine x_bipush 7 dX3_named_84 (by decide) ?_
      refine x_idiv dX3_named_86 (by decide) ?_
      cases h
      exact x_iret .int rfl rfl dX3_named_87 hQ
theorem s_X3_named {G : xG} {l : Launch} (hl : l.stackTraces = false) : ∀ n pc env P z, f_X3_named n pc env P = some z → ∀ L st, lay_X3_named pc env = some (L, st) → ∀ Q : xR → xH → Prop, Q z.1 z.2 → Wp G l 7 mX3_named pc L st P Q := by
  intro n
  induction n with
  | zero => intro pc env P z h; cases h
  | succ n ih =>
    intro pc env P z h L st hlay Q hQ
    unfold f_X3_named at h
    split at h
    · cases hlay
      exact t_X3_named_0 hl ih h hQ
    · cases hlay
      exact t_X3_named_12 hl ih h hQ
    · cases hlay
      exact t_X3_named_32 hl ih h hQ
    · cases hlay
      exact t_X3_named_65 hl ih h hQ
    · cases h
theorem c_X3_named {G : xG} {l : Launch} (hl : l.stackTraces = false) {n : Nat} {as : List Value} {P : xH} {z : xR × xH} (h : f_X3_named n 0 as P = some z) : Ct G l 7 mX3_named as P (fun r P1 => (r, P1) = z) := by
  cases n with
  | zero => cases h
  | succ n =>
    unfold f_X3_named at h
    split at h
    · exact Ct.of hl (by decide +kernel) wc_X3_named (Nat.le_of_ble_eq_true rfl) (t_X3_named_0 hl (s_X3_named hl _) h rfl)
    all_goals first | (cases h; done) | (rename_i q9 _; exact absurd q9 (by decide)) | (rename_i q9; exact absurd q9 (by decide)) | contradiction
