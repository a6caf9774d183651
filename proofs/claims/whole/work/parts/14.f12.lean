/-! QuakeNet$Help.addGang(II)I -/
def b_X0_addGang_0 (n : Nat) (rec : Nat → List Value → xH → xO) (a0 : Nat) (a1 : Int32) (a2 : Int32) (P : xH) : xO :=
  (rI P a0 0 6).bind fun v1 =>
  if v1 < 4 then
    (rA P a0 0 1).bind fun v3 =>
    (sI P v3 v1 a1).bind fun P5 =>
    (rA P5 a0 0 2).bind fun v7 =>
    (sI P5 v7 v1 a2).bind fun P9 =>
    (rI P9 a0 0 6).bind fun v11 =>
    (wV P9 a0 0 6 (.int ((v11 + 1)))).bind fun P13 =>
    some (.inl (some (.int v1)), P13)
  else
    some (.inl (some (.int ((-1)))), P)
def lay_X0_addGang : Nat → List Value → Option (xL × List Value)
  | 0, [a0, a1, a2] => some ([some a0, some a1, some a2, none], [])
  | _, _ => none
def f_X0_addGang : Nat → Nat → List Value → xH → xO
  | 0 => fun _ _ _ => none
  | n + 1 => fun pc env P => match pc, env with
    | 0, [.ref a0, .int a1, .int a2] => b_X0_addGang_0 n (f_X0_addGang n) a0 a1 a2 P
    | _, _ => none
set_option maxHeartbeats 2000000 in
set_option maxRecDepth 20000 in
theorem t_X0_addGang_0 {G : xG} {l : Launch} (hl : l.stackTraces = false) {n : Nat} {rec : Nat → List Value → xH → xO} (hrec : ∀ pc env P z, rec pc env P = some z → ∀ L st, lay_X0_addGang pc env = some (L, st) → ∀ Q : xR → xH → Prop, Q z.1 z.2 → Wp G l 3 mX0_addGang pc L st P Q) {a0 a1 a2} {P : xH} {z : xR × xH} (h : b_X0_addGang_0 n rec a0 a1 a2 P = some z) {Q : xR → xH → Prop} (hQ : Q z.1 z.2) : Wp G l 3 mX0_addGang 0 [some (.ref a0), some (.int a1), some (.int a2), none] [] P Q := by
  unfold b_X0_addGang_0 at h
  refine x_aload_nr dX0_addGang_0 rfl ?_
  obtain ⟨v1, e2, h⟩ := Option.bind_eq_some_iff.mp h
  refine k_rI e2 dX0_addGang_1 f_X0_41 ?_
  refine x_istore_n dX0_addGang_4 (Nat.le_of_ble_eq_true rfl) ?_
  refine x_iload_n dX0_addGang_5 rfl ?_
  refine x_iconst 4 dX0_addGang_6 (by decide) ?_
  refine x_icmp_lt 12 dX0_addGang_7 (by decide) (fun q15 => ?_) (fun q15 => ?_)
  · rw [if_pos q15] at h
    refine x_aload_nr dX0_addGang_12 rfl ?_
    obtain ⟨v3, e4, h⟩ := Option.bind_eq_some_iff.mp h
    refine k_rA e4 dX0_addGang_13 f_X0_16 ?_
    refine x_iload_n dX0_addGang_16 rfl ?_
    refine x_iload_n dX0_addGang_17 rfl ?_
    obtain ⟨P5, e6, h⟩ := Option.bind_eq_some_iff.mp h
    refine k_sI e6 dX0_addGang_18 ?_
    refine x_aload_nr dX0_addGang_19 rfl ?_
    obtain ⟨v7, e8, h⟩ := Option.bind_eq_some_iff.mp h
    refine k_rA e8 dX0_addGang_20 f_X0_20 ?_
    refine x_iload_n dX0_addGang_23 rfl ?_
    refine x_iload_n dX0_addGang_24 rfl ?_
    obtain ⟨P9, e10, h⟩ := Option.bind_eq_some_iff.mp h
    refine k_sI e10 dX0_addGang_25 ?_
    refine x_aload_nr dX0_addGang_26 rfl ?_
    refine x_dup dX0_addGang_27 rfl ?_
    obtain ⟨v11, e12, h⟩ := Option.bind_eq_some_iff.mp h
    refine k_rI e12 dX0_addGang_28 f_X0_41 ?_
    refine x_iconst 1 dX0_addGang_31 (by decide) ?_
    refine x_iadd dX0_addGang_32 ?_
    obtain ⟨P13, e14, h⟩ := Option.bind_eq_some_iff.mp h
    refine k_wI e14 dX0_addGang_33 f_X0_41 (Or.inl (by decide)) rfl ?_
    refine x_iload_n dX0_addGang_36 rfl ?_
    cases h
    exact x_iret .int rfl rfl dX0_addGang_37 hQ
  · rw [if_neg q15] at h
    refine x_iconst (-1) dX0_addGang_10 (by decide) ?_
    cases h
    exact x_iret .int rfl rfl dX0_addGang_11 hQ
theorem s_X0_addGang {G : xG} {l : Launch} (hl : l.stackTraces = false) : ∀ n pc env P z, f_X0_addGang n pc env P = some z → ∀ L st, lay_X0_addGang pc env = some (L, st) → ∀ Q : xR → xH → Prop, Q z.1 z.2 → Wp G l 3 mX0_addGang pc L st P Q := by
  intro n
  induction n with
  | zero => intro pc env P z h; cases h
  | succ n ih =>
    intro pc env P z h L st hlay Q hQ
    unfold f_X0_addGang at h
    split at h
    · cases hlay
      exact t_X0_addGang_0 hl ih h hQ
    · cases h
theorem c_X0_addGang {G : xG} {l : Launch} (hl : l.stackTraces = false) {n : Nat} {as : List Value} {P : xH} {z : xR × xH} (h : f_X0_addGang n 0 as P = some z) : Ct G l 3 mX0_addGang as P (fun r P1 => (r, P1) = z) := by
  cases n with
  | zero => cases h
  | succ n =>
    unfold f_X0_addGang at h
    split at h
    · exact Ct.of hl (by decide +kernel) wc_X0_addGang (Nat.le_of_ble_eq_true rfl) (t_X0_addGang_0 hl (s_X0_addGang hl _) h rfl)
    all_goals first | (cases h; done) | (rename_i q9 _; exact absurd q9 (by decide)) | (rename_i q9; exact absurd q9 (by decide)) | contradiction
/-! QuakeNet.gang(II)I -/
def b_X10_gang_0 (n : Nat) (rec : Nat → List Value → xH → xO) (a0 : Nat) (a1 : Int32) (a2 : Int32) (P : xH) : xO :=
  (f_X10_needPlace n 0 [.int a1] P).bind fun r2 => xUt r2 fun P1 =>
  (f_X10_needWithin n 0 [.int a2, .int 1, .int 100] P1).bind fun r5 => xUt r5 fun P4 =>
  (rA P4 a0 10 1).bind fun v7 =>
  (rA P4 v7 7 7).bind fun v9 =>
  (rI P4 v9 0 6).bind fun v11 =>
  (f_X10_needSpace n 0 [.int v11, .int 4] P4).bind fun r14 => xUt r14 fun P13 =>
  (rA P13 a0 10 1).bind fun v16 =>
  (rA P13 v16 7 7).bind fun v18 =>
  (kO P13 v18 0).bind fun _ =>
  (f_X0_addGang n 0 [.ref v18, .int a1, .int a2] P13).bind fun r21 => xI r21 fun v23 P20 =>
  some (.inl (some (.int v23)), P20)
def lay_X10_gang : Nat → List Value → Option (xL × List Value)
  | 0, [a0, a1, a2] => some ([some a0, some a1, some a2], [])
  | _, _ => none
def f_X10_gang : Nat → Nat → List Value → xH → xO
  | 0 => fun _ _ _ => none
  | n + 1 => fun pc env P => match pc, env with
    | 0, [.ref a0, .int a1, .int a2] => b_X10_gang_0 n (f_X10_gang n) a0 a1 a2 P
    | _, _ => none
set_option maxHeartbeats 2000000 in
set_option maxRecDepth 20000 in
theorem t_X10_gang_0 {G : xG} {l : Launch} (hl : l.stackTraces = false) {n : Nat} {rec : Nat → List Value → xH → xO} (hrec : ∀ pc env P z, rec pc env P = some z → ∀ L st, lay_X10_gang pc env = some (L, st) → ∀ Q : xR → xH → Prop, Q z.1 z.2 → Wp G l 10 mX10_gang pc L st P Q) {a0 a1 a2} {P : xH} {z : xR × xH} (h : b_X10_gang_0 n rec a0 a1 a2 P = some z) {Q : xR → xH → Prop} (hQ : Q z.1 z.2) : Wp G l 10 mX10_gang 0 [some (.ref a0), some (.int a1), some (.int a2)] [] P Q := by
  unfold b_X10_gang_0 at h
  refine x_iload_n dX10_gang_0 rfl ?_
  obtain ⟨r2, e3, h⟩ := Option.bind_eq_some_iff.mp h
  replace h := xUt_ok h
  rcases h with ⟨P1, hr9, h⟩ | ⟨i8, P8, rfl, rfl⟩
  · subst hr9
    refine x_callS (c_X10_needPlace hl e3) dX10_gang_1 cw_X10_needPlace wl_X10_64 ws_X10_needPlace rfl (by omega) (by decide) rfl (Nat.le_of_ble_eq_true rfl) rfl (fun v9 P9 hq9 => ?_) (fun i9 P9 hq9 => by cases hq9)
    cases hq9
    refine x_iload_n dX10_gang_4 rfl ?_
    refine x_iconst 1 dX10_gang_5 (by decide) ?_
    refine x_bipush 100 dX10_gang_6 (by decide) ?_
    obtain ⟨r5, e6, h⟩ := Option.bind_eq_some_iff.mp h
    replace h := xUt_ok h
    rcases h with ⟨P4, hr9, h⟩ | ⟨i8, P8, rfl, rfl⟩
    · subst hr9
      refine x_callS (c_X10_needWithin hl e6) dX10_gang_8 cw_X10_needWithin wl_X10_67 ws_X10_needWithin rfl (by omega) (by decide) rfl (Nat.le_of_ble_eq_true rfl) rfl (fun v9 P9 hq9 => ?_) (fun i9 P9 hq9 => by cases hq9)
      cases hq9
      refine x_aload_nr dX10_gang_11 rfl ?_
      obtain ⟨v7, e8, h⟩ := Option.bind_eq_some_iff.mp h
      refine k_rA e8 dX10_gang_12 f_X10_19 ?_
      obtain ⟨v9, e10, h⟩ := Option.bind_eq_some_iff.mp h
      refine k_rA e10 dX10_gang_15 f_X10_257 ?_
      obtain ⟨v11, e12, h⟩ := Option.bind_eq_some_iff.mp h
      refine k_rI e12 dX10_gang_18 f_X10_270 ?_
      refine x_iconst 4 dX10_gang_21 (by decide) ?_
      obtain ⟨r14, e15, h⟩ := Option.bind_eq_some_iff.mp h
      replace h := xUt_ok h
      rcases h with ⟨P13, hr9, h⟩ | ⟨i8, P8, rfl, rfl⟩
      · subst hr9
        refine x_callS (c_X10_needSpace hl e15) dX10_gang_22 cw_X10_needSpace wl_X10_74 ws_X10_needSpace rfl (by omega) (by decide) rfl (Nat.le_of_ble_eq_true rfl) rfl (fun v9 P9 hq9 => ?_) (fun i9 P9 hq9 => by cases hq9)
        cases hq9
        refine x_aload_nr dX10_gang_25 rfl ?_
        obtain ⟨v16, e17, h⟩ := Option.bind_eq_some_iff.mp h
        refine k_rA e17 dX10_gang_26 f_X10_19 ?_
        obtain ⟨v18, e19, h⟩ := Option.bind_eq_some_iff.mp h
        refine k_rA e19 dX10_gang_29 f_X10_257 ?_
        refine x_iload_n dX10_gang_32 rfl ?_
        refine x_iload_n dX10_gang_33 rfl ?_
        obtain ⟨_, e24, h⟩ := Option.bind_eq_some_iff.mp h
        obtain ⟨fse24, e24⟩ := kO_ok e24
        obtain ⟨r21, e22, h⟩ := Option.bind_eq_some_iff.mp h
        replace h := xI_ok h
        obtain ⟨v23, P20, rfl, h⟩ := h
        refine x_callV (c_X0_addGang hl e22) dX10_gang_34 cw_X0_addGang wl_X10_273 wi_X0_addGang wse_X0_addGang rfl e24 (by decide) rfl (by omega) (by decide) rfl (Nat.le_of_ble_eq_true rfl) rfl (fun v9 P9 hq9 => ?_) (fun i9 P9 hq9 => by cases hq9)
        cases hq9
        cases h
        exact x_iret .int rfl rfl dX10_gang_37 hQ
      · exact x_callS (c_X10_needSpace hl e15) dX10_gang_22 cw_X10_needSpace wl_X10_74 ws_X10_needSpace rfl (by omega) (by decide) rfl (Nat.le_of_ble_eq_true rfl) rfl (fun v9 P9 hq9 => by cases hq9) (fun i9 P9 hq9 => by cases hq9; exact hQ)
    · exact x_callS (c_X10_needWithin hl e6) dX10_gang_8 cw_X10_needWithin wl_X10_67 ws_X10_needWithin rfl (by omega) (by decide) rfl (Nat.le_of_ble_eq_true rfl) rfl (fun v9 P9 hq9 => by cases hq9) (fun i9 P9 hq9 => by cases hq9; exact hQ)
  · exact x_callS (c_X10_needPlace hl e3) dX10_gang_1 cw_X10_needPlace wl_X10_64 ws_X10_needPlace rfl (by omega) (by decide) rfl (Nat.le_of_ble_eq_true rfl) rfl (fun v9 P9 hq9 => by cases hq9) (fun i9 P9 hq9 => by cases hq9; exact hQ)
theorem s_X10_gang {G : xG} {l : Launch} (hl : l.stackTraces = false) : ∀ n pc env P z, f_X10_gang n pc env P = some z → ∀ L st, lay_X10_gang pc env = some (L, st) → ∀ Q : xR → xH → Prop, Q z.1 z.2 → Wp G l 10 mX10_gang pc L st P Q := by
  intro n
  induction n with
  | zero => intro pc env P z h; cases h
  | succ n ih =>
    intro pc env P z h L st hlay Q hQ
    unfold f_X10_gang at h
    split at h
    · cases hlay
      exact t_X10_gang_0 hl ih h hQ
    · cases h
theorem c_X10_gang {G : xG} {l : Launch} (hl : l.stackTraces = false) {n : Nat} {as : List Value} {P : xH} {z : xR × xH} (h : f_X10_gang n 0 as P = some z) : Ct G l 10 mX10_gang as P (fun r P1 => (r, P1) = z) := by
  cases n with
  | zero => cases h
  | succ n =>
    unfold f_X10_gang at h
    split at h
    · exact Ct.of hl (by decide +kernel) wc_X10_gang (Nat.le_of_ble_eq_true rfl) (t_X10_gang_0 hl (s_X10_gang hl _) h rfl)
    all_goals first | (cases h; done) | (rename_i q9 _; exact absurd q9 (by decide)) | (rename_i q9; exact absurd q9 (by decide)) | contradiction
/-! QuakeNet$Help.savedBy(III)I -/
def b_X0_savedBy_0 (n : Nat) (rec : Nat → List Value → xH → xO) (a0 : Nat) (a1 : Int32) (a2 : Int32) (a3 : Int32) (P : xH) : xO :=
  (rA P a0 0 2).bind fun v1 =>
  (aI P v1 a1).bind fun v3 =>
  if 1 ≤ v3 then
    (rA P a0 0 0).bind fun v5 =>
    (aA P v5 4).bind fun v7 =>
    (aI P v7 a2).bind fun v9 =>
    if v3 = 0 then none else
    (rA P a0 0 1).bind fun v12 =>
    (aI P v12 a1).bind fun v14 =>
    (rA P a0 0 0).bind fun v16 =>
    (aA P v16 0).bind fun v18 =>
    (aI P v18 a2).bind fun v20 =>
    (f_X10_steps n 0 [.int v14, .int v20] P).bind fun r23 => xI r23 fun v25 P22 =>
    (rA P22 a0 0 0).bind fun v26 =>
    (aA P22 v26 2).bind fun v28 =>
    (aI P22 v28 a2).bind fun v30 =>
    (rA P22 a0 0 0).bind fun v32 =>
    (aA P22 v32 3).bind fun v34 =>
    (aI P22 v34 a2).bind fun v36 =>
    (rA P22 a0 0 0).bind fun v38 =>
    (aA P22 v38 5).bind fun v40 =>
    (aI P22 v40 a2).bind fun v42 =>
    (rA P22 a0 0 0).bind fun v44 =>
    (aA P22 v44 1).bind fun v46 =>
    (aI P22 v46 a2).bind fun v48 =>
    some (.inl (some (.int ((v48 * ((mMax ((v30 - ((v36 * ((((((a3 + v25)) + ((((((v9 + v3)) - 1)) / v3)))) - v42)))))) 0)))))), P22)
  else
    some (.inl (some (.int 0)), P)
def lay_X0_savedBy : Nat → List Value → Option (xL × List Value)
  | 0, [a0, a1, a2, a3] => some ([some a0, some a1, some a2, some a3, none, none, none, none], [])
  | _, _ => none
def f_X0_savedBy : Nat → Nat → List Value → xH → xO
  | 0 => fun _ _ _ => none
  | n + 1 => fun pc env P => match pc, env with
    | 0, [.ref a0, .int a1, .int a2, .int a3] => b_X0_savedBy_0 n (f_X0_savedBy n) a0 a1 a2 a3 P
    | _, _ => none
set_option maxHeartbeats 2000000 in
set_option maxRecDepth 20000 in
theorem t_X0_savedBy_0 {G : xG} {l : Launch} (hl : l.stackTraces = false) {n : Nat} {rec : Nat → List Value → xH → xO} (hrec : ∀ pc env P z, rec pc env P = some z → ∀ L st, lay_X0_savedBy pc env = some (L, st) → ∀ Q : xR → xH → Prop, Q z.1 z.2 → Wp G l 8 mX0_savedBy pc L st P Q) {a0 a1 a2 a3} {P : xH} {z : xR × xH} (h : b_X0_savedBy_0 n rec a0 a1 a2 a3 P = some z) {Q : xR → xH → Prop} (hQ : Q z.1 z.2) : Wp G l 8 mX0_savedBy 0 [some (.ref a0), some (.int a1), some (.int a2), some (.int a3), none, none, none, none] [] P Q := by
  unfold b_X0_savedBy_0 at h
  refine x_aload_nr dX0_savedBy_0 rfl ?_
  obtain ⟨v1, e2, h⟩ := Option.bind_eq_some_iff.mp h
  refine k_rA e2 dX0_savedBy_1 f_X0_20 ?_
  refine x_iload_n dX0_savedBy_4 rfl ?_
  obtain ⟨v3, e4, h⟩ := Option.bind_eq_some_iff.mp h
  refine k_aI e4 dX0_savedBy_5 ?_
  refine x_istore dX0_savedBy_6 (Nat.le_of_ble_eq_true rfl) ?_
  refine x_iload dX0_savedBy_8 rfl ?_
  refine x_iconst 1 dX0_savedBy_10 (by decide) ?_
  refine x_icmp_ge 16 dX0_savedBy_11 (by decide) (fun q50 => ?_) (fun q50 => ?_)
  · rw [if_pos q50] at h
    refine x_aload_nr dX0_savedBy_16 rfl ?_
    obtain ⟨v5, e6, h⟩ := Option.bind_eq_some_iff.mp h
    refine k_rA e6 dX0_savedBy_17 f_X0_13 ?_
    refine x_iconst 4 dX0_savedBy_20 (by decide) ?_
    obtain ⟨v7, e8, h⟩ := Option.bind_eq_some_iff.mp h
    refine k_aA e8 dX0_savedBy_21 ?_
    refine x_iload_n dX0_savedBy_22 rfl ?_
    obtain ⟨v9, e10, h⟩ := Option.bind_eq_some_iff.mp h
    refine k_aI e10 dX0_savedBy_23 ?_
    refine x_iload dX0_savedBy_24 rfl ?_
    refine x_iadd dX0_savedBy_26 ?_
    refine x_iconst 1 dX0_savedBy_27 (by decide) ?_
    refine x_isub dX0_savedBy_28 ?_
    refine x_iload dX0_savedBy_29 rfl ?_
    by_cases q11 : v3 = 0
    · rw [if_pos q11] at h; cases h
    rw [if_neg q11] at h
    refine x_idiv dX0_savedBy_31 q11 ?_
    refine x_istore dX0_savedBy_32 (Nat.le_of_ble_eq_true rfl) ?_
    refine x_iload_n dX0_savedBy_34 rfl ?_
    refine x_aload_nr dX0_savedBy_35 rfl ?_
    obtain ⟨v12, e13, h⟩ := Option.bind_eq_some_iff.mp h
    refine k_rA e13 dX0_savedBy_36 f_X0_16 ?_
    refine x_iload_n dX0_savedBy_39 rfl ?_
    obtain ⟨v14, e15, h⟩ := Option.bind_eq_some_iff.mp h
    refine k_aI e15 dX0_savedBy_40 ?_
    refine x_aload_nr dX0_savedBy_41 rfl ?_
    obtain ⟨v16, e17, h⟩ := Option.bind_eq_some_iff.mp h
    refine k_rA e17 dX0_savedBy_42 f_X0_13 ?_
    refine x_iconst 0 dX0_savedBy_45 (by decide) ?_
    obtain ⟨v18, e19, h⟩ := Option.bind_eq_some_iff.mp h
    refine k_aA e19 dX0_savedBy_46 ?_
    refine x_iload_n dX0_savedBy_47 rfl ?_
    obtain ⟨v20, e21, h⟩ := Option.bind_eq_some_iff.mp h
    refine k_aI e21 dX0_savedBy_48 ?_
    obtain ⟨r23, e24, h⟩ := Option.bind_eq_some_iff.mp h
    replace h := xI_ok h
    obtain ⟨v25, P22, rfl, h⟩ := h
    refine x_callSN (c_X10_steps hl e24) dX0_savedBy_49 cw_X10_steps wn_X0_44 ws_X10_steps rfl (by omega) (by decide) rfl (Nat.le_of_ble_eq_true rfl) (fun i9 P9 hq9 => by cases hq9) (fun v9 P9 hq9 => ?_)
    cases hq9
    refine x_iadd dX0_savedBy_52 ?_
    refine x_iload dX0_savedBy_53 rfl ?_
    refine x_iadd dX0_savedBy_55 ?_
    refine x_istore dX0_savedBy_56 (Nat.le_of_ble_eq_true rfl) ?_
    refine x_aload_nr dX0_savedBy_58 rfl ?_
    obtain ⟨v26, e27, h⟩ := Option.bind_eq_some_iff.mp h
    refine k_rA e27 dX0_savedBy_59 f_X0_13 ?_
    refine x_iconst 2 dX0_savedBy_62 (by decide) ?_
    obtain ⟨v28, e29, h⟩ := Option.bind_eq_some_iff.mp h
    refine k_aA e29 dX0_savedBy_63 ?_
    refine x_iload_n dX0_savedBy_64 rfl ?_
    obtain ⟨v30, e31, h⟩ := Option.bind_eq_some_iff.mp h
    refine k_aI e31 dX0_savedBy_65 ?_
    refine x_aload_nr dX0_savedBy_66 rfl ?_
    obtain ⟨v32, e33, h⟩ := Option.bind_eq_some_iff.mp h
    refine k_rA e33 dX0_savedBy_67 f_X0_13 ?_
    refine x_iconst 3 dX0_savedBy_70 (by decide) ?_
    obtain ⟨v34, e35, h⟩ := Option.bind_eq_some_iff.mp h
    refine k_aA e35 dX0_savedBy_71 ?_
    refine x_iload_n dX0_savedBy_72 rfl ?_
    obtain ⟨v36, e37, h⟩ := Option.bind_eq_some_iff.mp h
    refine k_aI e37 dX0_savedBy_73 ?_
    refine x_iload dX0_savedBy_74 rfl ?_
    refine x_aload_nr dX0_savedBy_76 rfl ?_
    obtain ⟨v38, e39, h⟩ := Option.bind_eq_some_iff.mp h
    refine k_rA e39 dX0_savedBy_77 f_X0_13 ?_
    refine x_iconst 5 dX0_savedBy_80 (by decide) ?_
    obtain ⟨v40, e41, h⟩ := Option.bind_eq_some_iff.mp h
    refine k_aA e41 dX0_savedBy_81 ?_
    refine x_iload_n dX0_savedBy_82 rfl ?_
    obtain ⟨v42, e43, h⟩ := Option.bind_eq_some_iff.mp h
    refine k_aI e43 dX0_savedBy_83 ?_
    refine x_isub dX0_savedBy_84 ?_
    refine x_imul dX0_savedBy_85 ?_
    refine x_isub dX0_savedBy_86 ?_
    refine x_istore dX0_savedBy_87 (Nat.le_of_ble_eq_true rfl) ?_
    refine x_aload_nr dX0_savedBy_89 rfl ?_
    obtain ⟨v44, e45, h⟩ := Option.bind_eq_some_iff.mp h
    refine k_rA e45 dX0_savedBy_90 f_X0_13 ?_
    refine x_iconst 1 dX0_savedBy_93 (by decide) ?_
    obtain ⟨v46, e47, h⟩ := Option.bind_eq_some_iff.mp h
    refine k_aA e47 dX0_savedBy_94 ?_
    refine x_iload_n dX0_savedBy_95 rfl ?_
    obtain ⟨v48, e49, h⟩ := Option.bind_eq_some_iff.mp h
    refine k_aI e49 dX0_savedBy_96 ?_
    refine x_iload dX0_savedBy_97 rfl ?_
    refine x_iconst 0 dX0_savedBy_99 (by decide) ?_
    refine x_mmax dX0_savedBy_100 wl_X0_48 (Nat.le_of_ble_eq_true rfl) (by omega) ?_
    refine x_imul dX0_savedBy_103 ?_
    cases h
    exact x_iret .int rfl rfl dX0_savedBy_104 hQ
  · rw [if_neg q50] at h
    refine x_iconst 0 dX0_savedBy_14 (by decide) ?_
    cases h
    exact x_iret .int rfl rfl dX0_savedBy_15 hQ
theorem s_X0_savedBy {G : xG} {l : Launch} (hl : l.stackTraces = false) : ∀ n pc env P z, f_X0_savedBy n pc env P = some z → ∀ L st, lay_X0_savedBy pc env = some (L, st) → ∀ Q : xR → xH → Prop, Q z.1 z.2 → Wp G l 8 mX0_savedBy pc L st P Q := by
  intro n
  induction n with
  | zero => intro pc env P z h; cases h
  | succ n ih =>
    intro pc env P z h L st hlay Q hQ
    unfold f_X0_savedBy at h
    split at h
    · cases hlay
      exact t_X0_savedBy_0 hl ih h hQ
    · cases h
theorem c_X0_savedBy {G : xG} {l : Launch} (hl : l.stackTraces = false) {n : Nat} {as : List Value} {P : xH} {z : xR × xH} (h : f_X0_savedBy n 0 as P = some z) : Ct G l 8 mX0_savedBy as P (fun r P1 => (r, P1) = z) := by
  cases n with
  | zero => cases h
  | succ n =>
    unfold f_X0_savedBy at h
    split at h
    · exact Ct.of hl (by decide +kernel) wc_X0_savedBy (Nat.le_of_ble_eq_true rfl) (t_X0_savedBy_0 hl (s_X0_savedBy hl _) h rfl)
    all_goals first | (cases h; done) | (rename_i q9 _; exact absurd q9 (by decide)) | (rename_i q9; exact absurd q9 (by decide)) | contradiction
/-! QuakeNet.saved(II)I -/
def b_X10_saved_0 (n : Nat) (rec : Nat → List Value → xH → xO) (a0 : Nat) (a1 : Int32) (a2 : Int32) (P : xH) : xO :=
  (rA P a0 10 1).bind fun v1 =>
  (rA P v1 7 7).bind fun v3 =>
  (rI P v3 0 6).bind fun v5 =>
  (f_X10_needIndex n 0 [.int a1, .int v5] P).bind fun r8 => xUt r8 fun P7 =>
  (rA P7 a0 10 1).bind fun v10 =>
  (rA P7 v10 7 7).bind fun v12 =>
  (rI P7 v12 0 5).bind fun v14 =>
  (f_X10_needIndex n 0 [.int a2, .int v14] P7).bind fun r17 => xUt r17 fun P16 =>
  (rA P16 a0 10 1).bind fun v19 =>
  (rA P16 v19 7 7).bind fun v21 =>
  (rA P16 a0 10 1).bind fun v23 =>
  (rA P16 v23 7 3).bind fun v25 =>
  (rI P16 v25 1 2).bind fun v27 =>
  (kO P16 v21 0).bind fun _ =>
  (f_X0_savedBy n 0 [.ref v21, .int a1, .int a2, .int v27] P16).bind fun r30 => xI r30 fun v32 P29 =>
  some (.inl (some (.int v32)), P29)
def lay_X10_saved : Nat → List Value → Option (xL × List Value)
  | 0, [a0, a1, a2] => some ([some a0, some a1, some a2], [])
  | _, _ => none
def f_X10_saved : Nat → Nat → List Value → xH → xO
  | 0 => fun _ _ _ => none
  | n + 1 => fun pc env P => match pc, env with
    | 0, [.ref a0, .int a1, .int a2] => b_X10_saved_0 n (f_X10_saved n) a0 a1 a2 P
    | _, _ => none
set_option maxHeartbeats 2000000 in
set_option maxRecDepth 20000 in
theorem t_X10_saved_0 {G : xG} {l : Launch} (hl : l.stackTraces = false) {n : Nat} {rec : Nat → List Value → xH → xO} (hrec : ∀ pc env P z, rec pc env P = some z → ∀ L st, lay_X10_saved pc env = some (L, st) → ∀ Q : xR → xH → Prop, Q z.1 z.2 → Wp G l 9 mX10_saved pc L st P Q) {a0 a1 a2} {P : xH} {z : xR × xH} (h : b_X10_saved_0 n rec a0 a1 a2 P = some z) {Q : xR → xH → Prop} (hQ : Q z.1 z.2) : Wp G l 9 mX10_saved 0 [some (.ref a0), some (.int a1), some (.int a2)] [] P Q := by
  unfold b_X10_saved_0 at h
  refine x_iload_n dX10_saved_0 rfl ?_
  refine x_aload_nr dX10_saved_1 rfl ?_
  obtain ⟨v1, e2, h⟩ := Option.bind_eq_some_iff.mp h
  refine k_rA e2 dX10_saved_2 f_X10_19 ?_
  obtain ⟨v3, e4, h⟩ := Option.bind_eq_some_iff.mp h
  refine k_rA e4 dX10_saved_5 f_X10_257 ?_
  obtain ⟨v5, e6, h⟩ := Option.bind_eq_some_iff.mp h
  refine k_rI e6 dX10_saved_8 f_X10_270 ?_
  obtain ⟨r8, e9, h⟩ := Option.bind_eq_some_iff.mp h
  replace h := xUt_ok h
  rcases h with ⟨P7, hr9, h⟩ | ⟨i8, P8, rfl, rfl⟩
  · subst hr9
    refine x_callS (c_X10_needIndex hl e9) dX10_saved_11 cw_X10_needIndex wl_X10_87 ws_X10_needIndex rfl (by omega) (by decide) rfl (Nat.le_of_ble_eq_true rfl) rfl (fun v9 P9 hq9 => ?_) (fun i9 P9 hq9 => by cases hq9)
    cases hq9
    refine x_iload_n dX10_saved_14 rfl ?_
    refine x_aload_nr dX10_saved_15 rfl ?_
    obtain ⟨v10, e11, h⟩ := Option.bind_eq_some_iff.mp h
    refine k_rA e11 dX10_saved_16 f_X10_19 ?_
    obtain ⟨v12, e13, h⟩ := Option.bind_eq_some_iff.mp h
    refine k_rA e13 dX10_saved_19 f_X10_257 ?_
    obtain ⟨v14, e15, h⟩ := Option.bind_eq_some_iff.mp h
    refine k_rI e15 dX10_saved_22 f_X10_261 ?_
    obtain ⟨r17, e18, h⟩ := Option.bind_eq_some_iff.mp h
    replace h := xUt_ok h
    rcases h with ⟨P16, hr9, h⟩ | ⟨i8, P8, rfl, rfl⟩
    · subst hr9
      refine x_callS (c_X10_needIndex hl e18) dX10_saved_25 cw_X10_needIndex wl_X10_87 ws_X10_needIndex rfl (by omega) (by decide) rfl (Nat.le_of_ble_eq_true rfl) rfl (fun v9 P9 hq9 => ?_) (fun i9 P9 hq9 => by cases hq9)
      cases hq9
      refine x_aload_nr dX10_saved_28 rfl ?_
      obtain ⟨v19, e20, h⟩ := Option.bind_eq_some_iff.mp h
      refine k_rA e20 dX10_saved_29 f_X10_19 ?_
      obtain ⟨v21, e22, h⟩ := Option.bind_eq_some_iff.mp h
      refine k_rA e22 dX10_saved_32 f_X10_257 ?_
      refine x_iload_n dX10_saved_35 rfl ?_
      refine x_iload_n dX10_saved_36 rfl ?_
      refine x_aload_nr dX10_saved_37 rfl ?_
      obtain ⟨v23, e24, h⟩ := Option.bind_eq_some_iff.mp h
      refine k_rA e24 dX10_saved_38 f_X10_19 ?_
      obtain ⟨v25, e26, h⟩ := Option.bind_eq_some_iff.mp h
      refine k_rA e26 dX10_saved_41 f_X10_42 ?_
      obtain ⟨v27, e28, h⟩ := Option.bind_eq_some_iff.mp h
      refine k_rI e28 dX10_saved_44 f_X10_93 ?_
      obtain ⟨_, e33, h⟩ := Option.bind_eq_some_iff.mp h
      obtain ⟨fse33, e33⟩ := kO_ok e33
      obtain ⟨r30, e31, h⟩ := Option.bind_eq_some_iff.mp h
      replace h := xI_ok h
      obtain ⟨v32, P29, rfl, h⟩ := h
      refine x_callV (c_X0_savedBy hl e31) dX10_saved_47 cw_X0_savedBy wl_X10_276 wi_X0_savedBy wse_X0_savedBy rfl e33 (by decide) rfl (by omega) (by decide) rfl (Nat.le_of_ble_eq_true rfl) rfl (fun v9 P9 hq9 => ?_) (fun i9 P9 hq9 => by cases hq9)
      cases hq9
      cases h
      exact x_iret .int rfl rfl dX10_saved_50 hQ
    · exact x_callS (c_X10_needIndex hl e18) dX10_saved_25 cw_X10_needIndex wl_X10_87 ws_X10_needIndex rfl (by omega) (by decide) rfl (Nat.le_of_ble_eq_true rfl) rfl (fun v9 P9 hq9 => by cases hq9) (fun i9 P9 hq9 => by cases hq9; exact hQ)
  · exact x_callS (c_X10_needIndex hl e9) dX10_saved_11 cw_X10_needIndex wl_X10_87 ws_X10_needIndex rfl (by omega) (by decide) rfl (Nat.le_of_ble_eq_true rfl) rfl (fun v9 P9 hq9 => by cases hq9) (fun i9 P9 hq9 => by cases hq9; exact hQ)
theorem s_X10_saved {G : xG} {l : Launch} (hl : l.stackTraces = false) : ∀ n pc env P z, f_X10_saved n pc env P = some z → ∀ L st, lay_X10_saved pc env = some (L, st) → ∀ Q : xR → xH → Prop, Q z.1 z.2 → Wp G l 9 mX10_saved pc L st P Q := by
  intro n
  induction n with
  | zero => intro pc env P z h; cases h
  | succ n ih =>
    intro pc env P z h L st hlay Q hQ
    unfold f_X10_saved at h
    split at h
    · cases hlay
      exact t_X10_saved_0 hl ih h hQ
    · cases h
theorem c_X10_saved {G : xG} {l : Launch} (hl : l.stackTraces = false) {n : Nat} {as : List Value} {P : xH} {z : xR × xH} (h : f_X10_saved n 0 as P = some z) : Ct G l 9 mX10_saved as P (fun r P1 => (r, P1) = z) := by
  cases n with
  | zero => cases h
  | succ n =>
    unfold f_X10_saved at h
    split at h
    · exact Ct.of hl (by decide +kernel) wc_X10_saved (Nat.le_of_ble_eq_true rfl) (t_X10_saved_0 hl (s_X10_saved hl _) h rfl)
    all_goals first | (cases h; done) | (rename_i q9 _; exact absurd q9 (by decide)) | (rename_i q9; exact absurd q9 (by decide)) | contradiction
def mt_X0_choose : Nat → xM
  | _ => mX0_choose
/-! QuakeNet$Help.choose(IIII)V -/
def b_X0_choose_0 (n : Nat) (cr : Nat → List Value → xH → xO) (rec : Nat → List Value → xH → xO) (a0 : Nat) (a1 : Int32) (a2 : Int32) (a3 : Int32) (a4 : Int32) (P : xH) : xO :=
  (rI P a0 0 6).bind fun v1 =>
  if v1 ≤ a1 then
    rec 13 [.ref a0, .int a1, .int a2, .int a3, .int a4] P
  else
    if a1 < 4 then
      rec 41 [.ref a0, .int a1, .int a2, .int a3, .int a4, .int 0] P
    else
      rec 13 [.ref a0, .int a1, .int a2, .int a3, .int a4] P
def b_X0_choose_13 (n : Nat) (cr : Nat → List Value → xH → xO) (rec : Nat → List Value → xH → xO) (a0 : Nat) (a1 : Int32) (a2 : Int32) (a3 : Int32) (a4 : Int32) (P : xH) : xO :=
  (rI P a0 0 7).bind fun v1 =>
  if a3 ≤ v1 then
    some (.inl none, P)
  else
    (wV P a0 0 7 (.int a3)).bind fun P3 =>
    (rA P3 a0 0 3).bind fun v5 =>
    (rA P3 a0 0 4).bind fun v7 =>
    (f_X10_copyRow n 0 [.ref v5, .ref v7] P3).bind fun r10 => xU r10 fun P9 =>
    some (.inl none, P9)
def b_X0_choose_41 (n : Nat) (cr : Nat → List Value → xH → xO) (rec : Nat → List Value → xH → xO) (a0 : Nat) (a1 : Int32) (a2 : Int32) (a3 : Int32) (a4 : Int32) (a5 : Int32) (P : xH) : xO :=
  (rI P a0 0 5).bind fun v1 =>
  if v1 ≤ a5 then
    (rA P a0 0 3).bind fun v3 =>
    (sI P v3 a1 ((-1))).bind fun P5 =>
    (kO P5 a0 0).bind fun _ =>
    (cr 0 [.ref a0, .int ((a1 + 1)), .int a2, .int a3, .int a4] P5).bind fun r8 => xU r8 fun P7 =>
    some (.inl none, P7)
  else
    if ¬ ((((a2 >>> (a5 &&& 31))) &&& 1)) = 0 then
      rec 41 [.ref a0, .int a1, .int a2, .int a3, .int a4, .int ((a5 + 1))] P
    else
      (rA P a0 0 3).bind fun v11 =>
      (sI P v11 a1 a5).bind fun P13 =>
      (kO P13 a0 0).bind fun _ =>
      (f_X0_savedBy n 0 [.ref a0, .int a1, .int a5, .int a4] P13).bind fun r16 => xI r16 fun v18 P15 =>
      (kO P15 a0 0).bind fun _ =>
      (cr 0 [.ref a0, .int ((a1 + 1)), .int ((a2 ||| ((1 <<< (a5 &&& 31))))), .int ((a3 + v18)), .int a4] P15).bind fun r21 => xU r21 fun P20 =>
      rec 41 [.ref a0, .int a1, .int a2, .int a3, .int a4, .int ((a5 + 1))] P20
def lay_X0_choose : Nat → List Value → Option (xL × List Value)
  | 0, [a0, a1, a2, a3, a4] => some ([some a0, some a1, some a2, some a3, some a4, none], [])
  | 13, [a0, a1, a2, a3, a4] => some ([some a0, some a1, some a2, some a3, some a4, none], [])
  | 41, [a0, a1, a2, a3, a4, a5] => some ([some a0, some a1, some a2, some a3, some a4, some a5], [])
  | _, _ => none
def g_X0_choose (cr : Nat → List Value → xH → xO) : Nat → Nat → List Value → xH → xO
  | 0 => fun _ _ _ => none
  | n + 1 => fun pc env P => match pc, env with
    | 0, [.ref a0, .int a1, .int a2, .int a3, .int a4] => b_X0_choose_0 n cr (g_X0_choose cr n) a0 a1 a2 a3 a4 P
    | 13, [.ref a0, .int a1, .int a2, .int a3, .int a4] => b_X0_choose_13 n cr (g_X0_choose cr n) a0 a1 a2 a3 a4 P
    | 41, [.ref a0, .int a1, .int a2, .int a3, .int a4, .int a5] => b_X0_choose_41 n cr (g_X0_choose cr n) a0 a1 a2 a3 a4 a5 P
    | _, _ => none
set_option maxHeartbeats 2000000 in
set_option maxRecDepth 20000 in
theorem t_X0_choose_0 {G : xG} {l : Launch} (hl : l.stackTraces = false) {dp : Nat} {cr : Nat → List Value → xH → xO} (hself : ∀ t as P z, cr t as P = some z → Ct G l (dp + 9 - 1) (mt_X0_choose t) as P (fun r P1 => (r, P1) = z)) {n : Nat} {rec : Nat → List Value → xH → xO} (hrec : ∀ pc env P z, rec pc env P = some z → ∀ L st, lay_X0_choose pc env = some (L, st) → ∀ Q : xR → xH → Prop, Q z.1 z.2 → Wp G l (dp + 9) mX0_choose pc L st P Q) {a0 a1 a2 a3 a4} {P : xH} {z : xR × xH} (h : b_X0_choose_0 n cr rec a0 a1 a2 a3 a4 P = some z) {Q : xR → xH → Prop} (hQ : Q z.1 z.2) : Wp G l (dp + 9) mX0_choose 0 [some (.ref a0), some (.int a1), some (.int a2), some (.int a3), some (.int a4), none] [] P Q := by
  unfold b_X0_choose_0 at h
  refine x_iload_n dX0_choose_0 rfl ?_
  refine x_aload_nr dX0_choose_1 rfl ?_
  obtain ⟨v1, e2, h⟩ := Option.bind_eq_some_iff.mp h
  refine k_rI e2 dX0_choose_2 f_X0_41 ?_
  refine x_icmp_ge 13 dX0_choose_5 (by decide) (fun q4 => ?_) (fun q4 => ?_)
  · rw [if_pos q4] at h
    exact Wp.mask [true, true, true, true, true, false] (hrec 13 _ _ _ h _ _ rfl _ hQ)
  · rw [if_neg q4] at h
    refine x_iload_n dX0_choose_8 rfl ?_
    refine x_iconst 4 dX0_choose_9 (by decide) ?_
    refine x_icmp_lt 38 dX0_choose_10 (by decide) (fun q3 => ?_) (fun q3 => ?_)
    · rw [if_pos q3] at h
      refine x_iconst 0 dX0_choose_38 (by decide) ?_
      refine x_istore dX0_choose_39 (Nat.le_of_ble_eq_true rfl) ?_
      exact Wp.mask [true, true, true, true, true, true] (hrec 41 _ _ _ h _ _ rfl _ hQ)
    · rw [if_neg q3] at h
      exact Wp.mask [true, true, true, true, true, false] (hrec 13 _ _ _ h _ _ rfl _ hQ)
set_option maxHeartbeats 2000000 in
set_option maxRecDepth 20000 in
theorem t_X0_choose_13 {G : xG} {l : Launch} (hl : l.stackTraces = false) {dp : Nat} {cr : Nat → List Value → xH → xO} (hself : ∀ t as P z, cr t as P = some z → Ct G l (dp + 9 - 1) (mt_X0_choose t) as P (fun r P1 => (r, P1) = z)) {n : Nat} {rec : Nat → List Value → xH → xO} (hrec : ∀ pc env P z, rec pc env P = some z → ∀ L st, lay_X0_choose pc env = some (L, st) → ∀ Q : xR → xH → Prop, Q z.1 z.2 → Wp G l (dp + 9) mX0_choose pc L st P Q) {a0 a1 a2 a3 a4} {P : xH} {z : xR × xH} (h : b_X0_choose_13 n cr rec a0 a1 a2 a3 a4 P = some z) {Q : xR → xH → Prop} (hQ : Q z.1 z.2) : Wp G l (dp + 9) mX0_choose 13 [some (.ref a0), some (.int a1), some (.int a2), some (.int a3), some (.int a4), none] [] P Q := by
  unfold b_X0_choose_13 at h
  refine x_iload_n dX0_choose_13 rfl ?_
  refine x_aload_nr dX0_choose_14 rfl ?_
  obtain ⟨v1, e2, h⟩ := Option.bind_eq_some_iff.mp h
  refine k_rI e2 dX0_choose_15 f_X0_53 ?_
  refine x_icmp_le 37 dX0_choose_18 (by decide) (fun q12 => ?_) (fun q12 => ?_)
  · rw [if_pos q12] at h
    cases h
    exact x_ret rfl dX0_choose_37 hQ
  · rw [if_neg q12] at h
    refine x_aload_nr dX0_choose_21 rfl ?_
    refine x_iload_n dX0_choose_22 rfl ?_
    obtain ⟨P3, e4, h⟩ := Option.bind_eq_some_iff.mp h
    refine k_wI e4 dX0_choose_23 f_X0_53 (Or.inl (by decide)) rfl ?_
    refine x_aload_nr dX0_choose_26 rfl ?_
    obtain ⟨v5, e6, h⟩ := Option.bind_eq_some_iff.mp h
    refine k_rA e6 dX0_choose_27 f_X0_23 ?_
    refine x_aload_nr dX0_choose_30 rfl ?_
    obtain ⟨v7, e8, h⟩ := Option.bind_eq_some_iff.mp h
    refine k_rA e8 dX0_choose_31 f_X0_26 ?_
    obtain ⟨r10, e11, h⟩ := Option.bind_eq_some_iff.mp h
    replace h := xU_ok h
    obtain ⟨P9, rfl, h⟩ := h
    refine x_callSN (c_X10_copyRow hl e11) dX0_choose_34 cw_X10_copyRow wn_X0_33 ws_X10_copyRow rfl (by omega) (by decide) rfl (Nat.le_of_ble_eq_true rfl) (fun i9 P9 hq9 => by cases hq9) (fun v9 P9 hq9 => ?_)
    cases hq9
    cases h
    exact x_ret rfl dX0_choose_37 hQ
set_option maxHeartbeats 2000000 in
set_option maxRecDepth 20000 in
theorem t_X0_choose_41 {G : xG} {l : Launch} (hl : l.stackTraces = false) {dp : Nat} {cr : Nat → List Value → xH → xO} (hself : ∀ t as P z, cr t as P = some z → Ct G l (dp + 9 - 1) (mt_X0_choose t) as P (fun r P1 => (r, P1) = z)) {n : Nat} {rec : Nat → List Value → xH → xO} (hrec : ∀ pc env P z, rec pc env P = some z → ∀ L st, lay_X0_choose pc env = some (L, st) → ∀ Q : xR → xH → Prop, Q z.1 z.2 → Wp G l (dp + 9) mX0_choose pc L st P Q) {a0 a1 a2 a3 a4 a5} {P : xH} {z : xR × xH} (h : b_X0_choose_41 n cr rec a0 a1 a2 a3 a4 a5 P = some z) {Q : xR → xH → Prop} (hQ : Q z.1 z.2) : Wp G l (dp + 9) mX0_choose 41 [some (.ref a0), some (.int a1), some (.int a2), some (.int a3), some (.int a4), some (.int a5)] [] P Q := by
  unfold b_X0_choose_41 at h
  refine x_iload dX0_choose_41 rfl ?_
  refine x_aload_nr dX0_choose_43 rfl ?_
  obtain ⟨v1, e2, h⟩ := Option.bind_eq_some_iff.mp h
  refine k_rI e2 dX0_choose_44 f_X0_37 ?_
  refine x_icmp_ge 99 dX0_choose_47 (by decide) (fun q25 => ?_) (fun q25 => ?_)
  · rw [if_pos q25] at h
    refine x_aload_nr dX0_choose_99 rfl ?_
    obtain ⟨v3, e4, h⟩ := Option.bind_eq_some_iff.mp h
    refine k_rA e4 dX0_choose_100 f_X0_23 ?_
    refine x_iload_n dX0_choose_103 rfl ?_
    refine x_iconst (-1) dX0_choose_104 (by decide) ?_
    obtain ⟨P5, e6, h⟩ := Option.bind_eq_some_iff.mp h
    refine k_sI e6 dX0_choose_105 ?_
    refine x_aload_nr dX0_choose_106 rfl ?_
    refine x_iload_n dX0_choose_107 rfl ?_
    refine x_iconst 1 dX0_choose_108 (by decide) ?_
    refine x_iadd dX0_choose_109 ?_
    refine x_iload_n dX0_choose_110 rfl ?_
    refine x_iload_n dX0_choose_111 rfl ?_
    refine x_iload dX0_choose_112 rfl ?_
    obtain ⟨_, e10, h⟩ := Option.bind_eq_some_iff.mp h
    obtain ⟨fse10, e10⟩ := kO_ok e10
    obtain ⟨r8, e9, h⟩ := Option.bind_eq_some_iff.mp h
    replace h := xU_ok h
    obtain ⟨P7, rfl, h⟩ := h
    refine x_callV (hself 0 _ _ _ e9) dX0_choose_114 cw_X0_choose wl_X0_56 wi_X0_choose wse_X0_choose rfl e10 (by decide) rfl (by omega) (by decide) rfl (Nat.le_of_ble_eq_true rfl) rfl (fun v9 P9 hq9 => ?_) (fun i9 P9 hq9 => by cases hq9)
    cases hq9
    cases h
    exact x_ret rfl dX0_choose_117 hQ
  · rw [if_neg q25] at h
    refine x_iload_n dX0_choose_50 rfl ?_
    refine x_iload dX0_choose_51 rfl ?_
    refine x_ishr dX0_choose_53 ?_
    refine x_iconst 1 dX0_choose_54 (by decide) ?_
    refine x_iand dX0_choose_55 ?_
    refine x_if_ne 93 dX0_choose_56 (by decide) (fun q24 => ?_) (fun q24 => ?_)
    · rw [if_pos q24] at h
      refine x_iinc (a5 + 1) dX0_choose_93 rfl (by rfl) ?_
      refine x_goto 41 dX0_choose_96 (by decide) ?_
      exact Wp.mask [true, true, true, true, true, true] (hrec 41 _ _ _ h _ _ rfl _ hQ)
    · rw [if_neg (fun z9 => z9 q24)] at h
      refine x_aload_nr dX0_choose_59 rfl ?_
      obtain ⟨v11, e12, h⟩ := Option.bind_eq_some_iff.mp h
      refine k_rA e12 dX0_choose_60 f_X0_23 ?_
      refine x_iload_n dX0_choose_63 rfl ?_
      refine x_iload dX0_choose_64 rfl ?_
      obtain ⟨P13, e14, h⟩ := Option.bind_eq_some_iff.mp h
      refine k_sI e14 dX0_choose_66 ?_
      refine x_aload_nr dX0_choose_67 rfl ?_
      refine x_iload_n dX0_choose_68 rfl ?_
      refine x_iconst 1 dX0_choose_69 (by decide) ?_
      refine x_iadd dX0_choose_70 ?_
      refine x_iload_n dX0_choose_71 rfl ?_
      refine x_iconst 1 dX0_choose_72 (by decide) ?_
      refine x_iload dX0_choose_73 rfl ?_
      refine x_ishl dX0_choose_75 ?_
      refine x_ior dX0_choose_76 ?_
      refine x_iload_n dX0_choose_77 rfl ?_
      refine x_aload_nr dX0_choose_78 rfl ?_
      refine x_iload_n dX0_choose_79 rfl ?_
      refine x_iload dX0_choose_80 rfl ?_
      refine x_iload dX0_choose_82 rfl ?_
      obtain ⟨_, e19, h⟩ := Option.bind_eq_some_iff.mp h
      obtain ⟨fse19, e19⟩ := kO_ok e19
      obtain ⟨r16, e17, h⟩ := Option.bind_eq_some_iff.mp h
      replace h := xI_ok h
      obtain ⟨v18, P15, rfl, h⟩ := h
      refine x_callV (c_X0_savedBy hl e17) dX0_choose_84 cw_X0_savedBy wl_X0_60 wi_X0_savedBy wse_X0_savedBy rfl e19 (by decide) rfl (by omega) (by decide) rfl (Nat.le_of_ble_eq_true rfl) rfl (fun v9 P9 hq9 => ?_) (fun i9 P9 hq9 => by cases hq9)
      cases hq9
      refine x_iadd dX0_choose_87 ?_
      refine x_iload dX0_choose_88 rfl ?_
      obtain ⟨_, e23, h⟩ := Option.bind_eq_some_iff.mp h
      obtain ⟨fse23, e23⟩ := kO_ok e23
      obtain ⟨r21, e22, h⟩ := Option.bind_eq_some_iff.mp h
      replace h := xU_ok h
      obtain ⟨P20, rfl, h⟩ := h
      refine x_callV (hself 0 _ _ _ e22) dX0_choose_90 cw_X0_choose wl_X0_56 wi_X0_choose wse_X0_choose rfl e23 (by decide) rfl (by omega) (by decide) rfl (Nat.le_of_ble_eq_true rfl) rfl (fun v9 P9 hq9 => ?_) (fun i9 P9 hq9 => by cases hq9)
      cases hq9
      refine x_iinc (a5 + 1) dX0_choose_93 rfl (by rfl) ?_
      refine x_goto 41 dX0_choose_96 (by decide) ?_
      exact Wp.mask [true, true, true, true, true, true] (hrec 41 _ _ _ h _ _ rfl _ hQ)
theorem s_X0_choose {G : xG} {l : Launch} (hl : l.stackTraces = false) {dp : Nat} {cr : Nat → List Value → xH → xO} (hself : ∀ t as P z, cr t as P = some z → Ct G l (dp + 9 - 1) (mt_X0_choose t) as P (fun r P1 => (r, P1) = z)) : ∀ n pc env P z, g_X0_choose cr n pc env P = some z → ∀ L st, lay_X0_choose pc env = some (L, st) → ∀ Q : xR → xH → Prop, Q z.1 z.2 → Wp G l (dp + 9) mX0_choose pc L st P Q := by
  intro n
  induction n with
  | zero => intro pc env P z h; cases h
  | succ n ih =>
    intro pc env P z h L st hlay Q hQ
    unfold g_X0_choose at h
    split at h
    · cases hlay
      exact t_X0_choose_0 hl hself ih h hQ
    · cases hlay
      exact t_X0_choose_13 hl hself ih h hQ
    · cases hlay
      exact t_X0_choose_41 hl hself ih h hQ
    · cases h
theorem cg_X0_choose {G : xG} {l : Launch} (hl : l.stackTraces = false) {dp : Nat} {cr : Nat → List Value → xH → xO} (hself : ∀ t as P z, cr t as P = some z → Ct G l (dp + 9 - 1) (mt_X0_choose t) as P (fun r P1 => (r, P1) = z)) {n : Nat} {as : List Value} {P : xH} {z : xR × xH} (h : g_X0_choose cr n 0 as P = some z) : Ct G l (dp + 9) mX0_choose as P (fun r P1 => (r, P1) = z) := by
  cases n with
  | zero => cases h
  | succ n =>
    unfold g_X0_choose at h
    split at h
    · exact Ct.of hl (by decide +kernel) wc_X0_choose (Nat.le_of_ble_eq_true rfl) (t_X0_choose_0 hl hself (s_X0_choose hl hself _) h rfl)
    all_goals first | (cases h; done) | (rename_i q9 _; exact absurd q9 (by decide)) | (rename_i q9; exact absurd q9 (by decide)) | contradiction
def F_X0_choose (n : Nat) : Nat → Nat → List Value → xH → xO
  | 0 => fun _ _ _ => none
  | dp + 1 => fun t as P => match t with
    | 0 => g_X0_choose (F_X0_choose n dp) n 0 as P
    | _ => none
theorem cF_X0_choose {G : xG} {l : Launch} (hl : l.stackTraces = false) (n : Nat) : ∀ dp t as P z, F_X0_choose n dp t as P = some z → Ct G l (dp + 9) (mt_X0_choose t) as P (fun r P1 => (r, P1) = z) := by
  intro dp
  induction dp with
  | zero => intro t as P z h; cases h
  | succ dp ih =>
    intro t as P z h
    unfold F_X0_choose at h
    split at h
    · exact cg_X0_choose (dp := dp + 1) hl (fun t as P z h9 => (show dp + 1 + 9 - 1 = dp + 9 by omega) ▸ ih t as P z h9) h
    · cases h
def f_X0_choose (n pc : Nat) (as : List Value) (P : xH) : xO := if pc = 0 then F_X0_choose n 30 0 as P else none
theorem c_X0_choose {G : xG} {l : Launch} (hl : l.stackTraces = false) {n : Nat} {as : List Value} {P : xH} {z : xR × xH} (h : f_X0_choose n 0 as P = some z) : Ct G l 39 mX0_choose as P (fun r P1 => (r, P1) = z) := cF_X0_choose hl n 30 0 as P z h
/-! QuakeNet$Help.findBest(I)V -/
def b_X0_findBest_0 (n : Nat) (rec : Nat → List Value → xH → xO) (a0 : Nat) (a1 : Int32) (P : xH) : xO :=
  (wV P a0 0 7 (.int ((-1)))).bind fun P1 =>
  (kO P1 a0 0).bind fun _ =>
  (f_X0_choose n 0 [.ref a0, .int 0, .int 0, .int 0, .int a1] P1).bind fun r4 => xU r4 fun P3 =>
  some (.inl none, P3)
def lay_X0_findBest : Nat → List Value → Option (xL × List Value)
  | 0, [a0, a1] => some ([some a0, some a1], [])
  | _, _ => none
def f_X0_findBest : Nat → Nat → List Value → xH → xO
  | 0 => fun _ _ _ => none
  | n + 1 => fun pc env P => match pc, env with
    | 0, [.ref a0, .int a1] => b_X0_findBest_0 n (f_X0_findBest n) a0 a1 P
    | _, _ => none
set_option maxHeartbeats 2000000 in
set_option maxRecDepth 20000 in
theorem t_X0_findBest_0 {G : xG} {l : Launch} (hl : l.stackTraces = false) {n : Nat} {rec : Nat → List Value → xH → xO} (hrec : ∀ pc env P z, rec pc env P = some z → ∀ L st, lay_X0_findBest pc env = some (L, st) → ∀ Q : xR → xH → Prop, Q z.1 z.2 → Wp G l 40 mX0_findBest pc L st P Q) {a0 a1} {P : xH} {z : xR × xH} (h : b_X0_findBest_0 n rec a0 a1 P = some z) {Q : xR → xH → Prop} (hQ : Q z.1 z.2) : Wp G l 40 mX0_findBest 0 [some (.ref a0), some (.int a1)] [] P Q := by
  unfold b_X0_findBest_0 at h
  refine x_aload_nr dX0_findBest_0 rfl ?_
  refine x_iconst (-1) dX0_findBest_1 (by decide) ?_
  obtain ⟨P1, e2, h⟩ := Option.bind_eq_some_iff.mp h
  refine k_wI e2 dX0_findBest_2 f_X0_53 (Or.inl (by decide)) rfl ?_
  refine x_aload_nr dX0_findBest_5 rfl ?_
  refine x_iconst 0 dX0_findBest_6 (by decide) ?_
  refine x_iconst 0 dX0_findBest_7 (by decide) ?_
  refine x_iconst 0 dX0_findBest_8 (by decide) ?_
  refine x_iload_n dX0_findBest_9 rfl ?_
  obtain ⟨_, e6, h⟩ := Option.bind_eq_some_iff.mp h
  obtain ⟨fse6, e6⟩ := kO_ok e6
  obtain ⟨r4, e5, h⟩ := Option.bind_eq_some_iff.mp h
  replace h := xU_ok h
  obtain ⟨P3, rfl, h⟩ := h
  refine x_callV (c_X0_choose hl e5) dX0_findBest_10 cw_X0_choose wl_X0_56 wi_X0_choose wse_X0_choose rfl e6 (by decide) rfl (by omega) (by decide) rfl (Nat.le_of_ble_eq_true rfl) rfl (fun v9 P9 hq9 => ?_) (fun i9 P9 hq9 => by cases hq9)
  cases hq9
  cases h
  exact x_ret rfl dX0_findBest_13 hQ
theorem s_X0_findBest {G : xG} {l : Launch} (hl : l.stackTraces = false) : ∀ n pc env P z, f_X0_findBest n pc env P = some z → ∀ L st, lay_X0_findBest pc env = some (L, st) → ∀ Q : xR → xH → Prop, Q z.1 z.2 → Wp G l 40 mX0_findBest pc L st P Q := by
  intro n
  induction n with
  | zero => intro pc env P z h; cases h
  | succ n ih =>
    intro pc env P z h L st hlay Q hQ
    unfold f_X0_findBest at h
    split at h
    · cases hlay
      exact t_X0_findBest_0 hl ih h hQ
    · cases h
theorem c_X0_findBest {G : xG} {l : Launch} (hl : l.stackTraces = false) {n : Nat} {as : List Value} {P : xH} {z : xR × xH} (h : f_X0_findBest n 0 as P = some z) : Ct G l 40 mX0_findBest as P (fun r P1 => (r, P1) = z) := by
  cases n with
  | zero => cases h
  | succ n =>
    unfold f_X0_findBest at h
    split at h
    · exact Ct.of hl (by decide +kernel) wc_X0_findBest (Nat.le_of_ble_eq_true rfl) (t_X0_findBest_0 hl (s_X0_findBest hl _) h rfl)
    all_goals first | (cases h; done) | (rename_i q9 _; exact absurd q9 (by decide)) | (rename_i q9; exact absurd q9 (by decide)) | contradiction
/-! QuakeNet.send(I)I -/
def b_X10_send_0 (n : Nat) (rec : Nat → List Value → xH → xO) (a0 : Nat) (a1 : Int32) (P : xH) : xO :=
  if a1 = ((-1)) then
    rec 19 [.ref a0, .int a1] P
  else
    (rA P a0 10 1).bind fun v1 =>
    (rA P v1 7 7).bind fun v3 =>
    (rI P v3 0 6).bind fun v5 =>
    (f_X10_needIndex n 0 [.int a1, .int v5] P).bind fun r8 => xUt r8 fun P7 =>
    rec 19 [.ref a0, .int a1] P7
def b_X10_send_19 (n : Nat) (rec : Nat → List Value → xH → xO) (a0 : Nat) (a1 : Int32) (P : xH) : xO :=
  (rA P a0 10 1).bind fun v1 =>
  (rA P v1 7 7).bind fun v3 =>
  (rA P a0 10 1).bind fun v5 =>
  (rA P v5 7 3).bind fun v7 =>
  (rI P v7 1 2).bind fun v9 =>
  (kO P v3 0).bind fun _ =>
  (f_X0_findBest n 0 [.ref v3, .int v9] P).bind fun r12 => xU r12 fun P11 =>
  if ¬ a1 = ((-1)) then
    (rA P11 a0 10 1).bind fun v15 =>
    (rA P11 v15 7 7).bind fun v17 =>
    (rA P11 v17 0 4).bind fun v19 =>
    (aI P11 v19 a1).bind fun v21 =>
    some (.inl (some (.int v21)), P11)
  else
    (rA P11 a0 10 1).bind fun v23 =>
    (rA P11 v23 7 7).bind fun v25 =>
    (rI P11 v25 0 7).bind fun v27 =>
    some (.inl (some (.int v27)), P11)
def lay_X10_send : Nat → List Value → Option (xL × List Value)
  | 0, [a0, a1] => some ([some a0, some a1], [])
  | 19, [a0, a1] => some ([some a0, some a1], [])
  | _, _ => none
def f_X10_send : Nat → Nat → List Value → xH → xO
  | 0 => fun _ _ _ => none
  | n + 1 => fun pc env P => match pc, env with
    | 0, [.ref a0, .int a1] => b_X10_send_0 n (f_X10_send n) a0 a1 P
    | 19, [.ref a0, .int a1] => b_X10_send_19 n (f_X10_send n) a0 a1 P
    | _, _ => none
set_option maxHeartbeats 2000000 in
set_option maxRecDepth 20000 in
theorem t_X10_send_0 {G : xG} {l : Launch} (hl : l.stackTraces = false) {n : Nat} {rec : Nat → List Value → xH → xO} (hrec : ∀ pc env P z, rec pc env P = some z → ∀ L st, lay_X10_send pc env = some (L, st) → ∀ Q : xR → xH → Prop, Q z.1 z.2 → Wp G l 41 mX10_send pc L st P Q) {a0 a1} {P : xH} {z : xR × xH} (h : b_X10_send_0 n rec a0 a1 P = some z) {Q : xR → xH → Prop} (hQ : Q z.1 z.2) : Wp G l 41 mX10_send 0 [some (.ref a0), some (.int a1)] [] P Q := by
  unfold b_X10_send_0 at h
  refine x_iload_n dX10_send_0 rfl ?_
  refine x_iconst (-1) dX10_send_1 (by decide) ?_
  refine x_icmp_eq 19 dX10_send_2 (by decide) (fun q10 => ?_) (fun q10 => ?_)
  · rw [if_pos q10] at h
    exact Wp.mask [true, true] (hrec 19 _ _ _ h _ _ rfl _ hQ)
  · rw [if_neg q10] at h
    refine x_iload_n dX10_send_5 rfl ?_
    refine x_aload_nr dX10_send_6 rfl ?_
    obtain ⟨v1, e2, h⟩ := Option.bind_eq_some_iff.mp h
    refine k_rA e2 dX10_send_7 f_X10_19 ?_
    obtain ⟨v3, e4, h⟩ := Option.bind_eq_some_iff.mp h
    refine k_rA e4 dX10_send_10 f_X10_257 ?_
    obtain ⟨v5, e6, h⟩ := Option.bind_eq_some_iff.mp h
    refine k_rI e6 dX10_send_13 f_X10_270 ?_
    obtain ⟨r8, e9, h⟩ := Option.bind_eq_some_iff.mp h
    replace h := xUt_ok h
    rcases h with ⟨P7, hr9, h⟩ | ⟨i8, P8, rfl, rfl⟩
    · subst hr9
      refine x_callS (c_X10_needIndex hl e9) dX10_send_16 cw_X10_needIndex wl_X10_87 ws_X10_needIndex rfl (by omega) (by decide) rfl (Nat.le_of_ble_eq_true rfl) rfl (fun v9 P9 hq9 => ?_) (fun i9 P9 hq9 => by cases hq9)
      cases hq9
      exact Wp.mask [true, true] (hrec 19 _ _ _ h _ _ rfl _ hQ)
    · exact x_callS (c_X10_needIndex hl e9) dX10_send_16 cw_X10_needIndex wl_X10_87 ws_X10_needIndex rfl (by omega) (by decide) rfl (Nat.le_of_ble_eq_true rfl) rfl (fun v9 P9 hq9 => by cases hq9) (fun i9 P9 hq9 => by cases hq9; exact hQ)
set_option maxHeartbeats 2000000 in
set_option maxRecDepth 20000 in
theorem t_X10_send_19 {G : xG} {l : Launch} (hl : l.stackTraces = false) {n : Nat} {rec : Nat → List Value → xH → xO} (hrec : ∀ pc env P z, rec pc env P = some z → ∀ L st, lay_X10_send pc env = some (L, st) → ∀ Q : xR → xH → Prop, Q z.1 z.2 → Wp G l 41 mX10_send pc L st P Q) {a0 a1} {P : xH} {z : xR × xH} (h : b_X10_send_19 n rec a0 a1 P = some z) {Q : xR → xH → Prop} (hQ : Q z.1 z.2) : Wp G l 41 mX10_send 19 [some (.ref a0), some (.int a1)] [] P Q := by
  unfold b_X10_send_19 at h
  refine x_aload_nr dX10_send_19 rfl ?_
  obtain ⟨v1, e2, h⟩ := Option.bind_eq_some_iff.mp h
  refine k_rA e2 dX10_send_20 f_X10_19 ?_
  obtain ⟨v3, e4, h⟩ := Option.bind_eq_some_iff.mp h
  refine k_rA e4 dX10_send_23 f_X10_257 ?_
  refine x_aload_nr dX10_send_26 rfl ?_
  obtain ⟨v5, e6, h⟩ := Option.bind_eq_some_iff.mp h
  refine k_rA e6 dX10_send_27 f_X10_19 ?_
  obtain ⟨v7, e8, h⟩ := Option.bind_eq_some_iff.mp h
  refine k_rA e8 dX10_send_30 f_X10_42 ?_
  obtain ⟨v9, e10, h⟩ := Option.bind_eq_some_iff.mp h
  refine k_rI e10 dX10_send_33 f_X10_93 ?_
  obtain ⟨_, e14, h⟩ := Option.bind_eq_some_iff.mp h
  obtain ⟨fse14, e14⟩ := kO_ok e14
  obtain ⟨r12, e13, h⟩ := Option.bind_eq_some_iff.mp h
  replace h := xU_ok h
  obtain ⟨P11, rfl, h⟩ := h
  refine x_callV (c_X0_findBest hl e13) dX10_send_36 cw_X0_findBest wl_X10_279 wi_X0_findBest wse_X0_findBest rfl e14 (by decide) rfl (by omega) (by decide) rfl (Nat.le_of_ble_eq_true rfl) rfl (fun v9 P9 hq9 => ?_) (fun i9 P9 hq9 => by cases hq9)
  cases hq9
  refine x_iload_n dX10_send_39 rfl ?_
  refine x_iconst (-1) dX10_send_40 (by decide) ?_
  refine x_icmp_ne 57 dX10_send_41 (by decide) (fun q29 => ?_) (fun q29 => ?_)
  · rw [if_pos q29] at h
    refine x_aload_nr dX10_send_57 rfl ?_
    obtain ⟨v15, e16, h⟩ := Option.bind_eq_some_iff.mp h
    refine k_rA e16 dX10_send_58 f_X10_19 ?_
    obtain ⟨v17, e18, h⟩ := Option.bind_eq_some_iff.mp h
    refine k_rA e18 dX10_send_61 f_X10_257 ?_
    obtain ⟨v19, e20, h⟩ := Option.bind_eq_some_iff.mp h
    refine k_rA e20 dX10_send_64 f_X10_284 ?_
    refine x_iload_n dX10_send_67 rfl ?_
    obtain ⟨v21, e22, h⟩ := Option.bind_eq_some_iff.mp h
    refine k_aI e22 dX10_send_68 ?_
    cases h
    exact x_iret .int rfl rfl dX10_send_69 hQ
  · rw [if_neg (fun z9 => z9 q29)] at h
    refine x_aload_nr dX10_send_44 rfl ?_
    obtain ⟨v23, e24, h⟩ := Option.bind_eq_some_iff.mp h
    refine k_rA e24 dX10_send_45 f_X10_19 ?_
    obtain ⟨v25, e26, h⟩ := Option.bind_eq_some_iff.mp h
    refine k_rA e26 dX10_send_48 f_X10_257 ?_
    obtain ⟨v27, e28, h⟩ := Option.bind_eq_some_iff.mp h
    refine k_rI e28 dX10_send_51 f_X10_281 ?_
    refine x_goto 69 dX10_send_54 (by decide) ?_
    cases h
    exact x_iret .int rfl rfl dX10_send_69 hQ
theorem s_X10_send {G : xG} {l : Launch} (hl : l.stackTraces = false) : ∀ n pc env P z, f_X10_send n pc env P = some z → ∀ L st, lay_X10_send pc env = some (L, st) → ∀ Q : xR → xH → Prop, Q z.1 z.2 → Wp G l 41 mX10_send pc L st P Q := by
  intro n
  induction n with
  | zero => intro pc env P z h; cases h
  | succ n ih =>
    intro pc env P z h L st hlay Q hQ
    unfold f_X10_send at h
    split at h
    · cases hlay
      exact t_X10_send_0 hl ih h hQ
    · cases hlay
      exact t_X10_send_19 hl ih h hQ
    · cases h
theorem c_X10_send {G : xG} {l : Launch} (hl : l.stackTraces = false) {n : Nat} {as : List Value} {P : xH} {z : xR × xH} (h : f_X10_send n 0 as P = some z) : Ct G l 41 mX10_send as P (fun r P1 => (r, P1) = z) := by
  cases n with
  | zero => cases h
  | succ n =>
    unfold f_X10_send at h
    split at h
    · exact Ct.of hl (by decide +kernel) wc_X10_send (Nat.le_of_ble_eq_true rfl) (t_X10_send_0 hl (s_X10_send hl _) h rfl)
    all_goals first | (cases h; done) | (rename_i q9 _; exact absurd q9 (by decide)) | (rename_i q9; exact absurd q9 (by decide)) | contradiction
/-! QuakeNet$Town.isHidden(I)Z -/
def b_X7_isHidden_0 (n : Nat) (rec : Nat → List Value → xH → xO) (a0 : Nat) (a1 : Int32) (P : xH) : xO :=
  (rI P a0 7 9).bind fun v1 =>
  if ((((v1 >>> (a1 &&& 31))) &&& 1)) = 0 then
    some (.inl (some (.int 0)), P)
  else
    some (.inl (some (.int 1)), P)
def lay_X7_isHidden : Nat → List Value → Option (xL × List Value)
  | 0, [a0, a1] => some ([some a0, some a1], [])
  | _, _ => none
def f_X7_isHidden : Nat → Nat → List Value → xH → xO
  | 0 => fun _ _ _ => none
  | n + 1 => fun pc env P => match pc, env with
    | 0, [.ref a0, .int a1] => b_X7_isHidden_0 n (f_X7_isHidden n) a0 a1 P
    | _, _ => none
set_option maxHeartbeats 2000000 in
set_option maxRecDepth 20000 in
theorem t_X7_isHidden_0 {G : xG} {l : Launch} (hl : l.stackTraces = false) {n : Nat} {rec : Nat → List Value → xH → xO} (hrec : ∀ pc env P z, rec pc env P = some z → ∀ L st, lay_X7_isHidden pc env = some (L, st) → ∀ Q : xR → xH → Prop, Q z.1 z.2 → Wp G l 3 mX7_isHidden pc L st P Q) {a0 a1} {P : xH} {z : xR × xH} (h : b_X7_isHidden_0 n rec a0 a1 P = some z) {Q : xR → xH → Prop} (hQ : Q z.1 z.2) : Wp G l 3 mX7_isHidden 0 [some (.ref a0), some (.int a1)] [] P Q := by
  unfold b_X7_isHidden_0 at h
  refine x_aload_nr dX7_isHidden_0 rfl ?_
  obtain ⟨v1, e2, h⟩ := Option.bind_eq_some_iff.mp h
  refine k_rI e2 dX7_isHidden_1 f_X7_86 ?_
  refine x_iload_n dX7_isHidden_4 rfl ?_
  refine x_ishr dX7_isHidden_5 ?_
  refine x_iconst 1 dX7_isHidden_6 (by decide) ?_
  refine x_iand dX7_isHidden_7 ?_
  refine x_if_eq 15 dX7_isHidden_8 (by decide) (fun q3 => ?_) (fun q3 => ?_)
  · rw [if_pos q3] at h
    refine x_iconst 0 dX7_isHidden_15 (by decide) ?_
    cases h
    exact x_iret .boolean rfl rfl dX7_isHidden_16 hQ
  · rw [if_neg q3] at h
    refine x_iconst 1 dX7_isHidden_11 (by decide) ?_
    refine x_goto 16 dX7_isHidden_12 (by decide) ?_
    cases h
    exact x_iret .boolean rfl rfl dX7_isHidden_16 hQ
theorem s_X7_isHidden {G : xG} {l : Launch} (hl : l.stackTraces = false) : ∀ n pc env P z, f_X7_isHidden n pc env P = some z → ∀ L st, lay_X7_isHidden pc env = some (L, st) → ∀ Q : xR → xH → Prop, Q z.1 z.2 → Wp G l 3 mX7_isHidden pc L st P Q := by
  intro n
  induction n with
  | zero => intro pc env P z h; cases h
  | succ n ih =>
    intro pc env P z h L st hlay Q hQ
    unfold f_X7_isHidden at h
    split at h
    · cases hlay
      exact t_X7_isHidden_0 hl ih h hQ
    · cases h
theorem c_X7_isHidden {G : xG} {l : Launch} (hl : l.stackTraces = false) {n : Nat} {as : List Value} {P : xH} {z : xR × xH} (h : f_X7_isHidden n 0 as P = some z) : Ct G l 3 mX7_isHidden as P (fun r P1 => (r, P1) = z) := by
  cases n with
  | zero => cases h
  | succ n =>
    unfold f_X7_isHidden at h
    split at h
    · exact Ct.of hl (by decide +kernel) wc_X7_isHidden (Nat.le_of_ble_eq_true rfl) (t_X7_isHidden_0 hl (s_X7_isHidden hl _) h rfl)
    all_goals first | (cases h; done) | (rename_i q9 _; exact absurd q9 (by decide)) | (rename_i q9; exact absurd q9 (by decide)) | contradiction
/-! QuakeNet.hide(IZ)Z -/
def b_X10_hide_0 (n : Nat) (rec : Nat → List Value → xH → xO) (a0 : Nat) (a1 : Int32) (a2 : Int32) (P : xH) : xO :=
  (f_X10_needIndex n 0 [.int a1, .int 16] P).bind fun r2 => xUt r2 fun P1 =>
  (rA P1 a0 10 1).bind fun v4 =>
  (kO P1 v4 7).bind fun _ =>
  (f_X7_isHidden n 0 [.ref v4, .int a1] P1).bind fun r7 => xI r7 fun v9 P6 =>
  if v9 = a2 then
    rec 35 [.ref a0, .int a1, .int a2, .int v9] P6
  else
    (rA P6 a0 10 1).bind fun v11 =>
    (rI P6 v11 7 9).bind fun v13 =>
    (wV P6 v11 7 9 (.int ((v13 ^^^ ((1 <<< (a1 &&& 31))))))).bind fun P15 =>
    rec 35 [.ref a0, .int a1, .int a2, .int v9] P15
def b_X10_hide_35 (n : Nat) (rec : Nat → List Value → xH → xO) (a0 : Nat) (a1 : Int32) (a2 : Int32) (a3 : Int32) (P : xH) : xO :=
  if a3 = a2 then
    some (.inl (some (.int 0)), P)
  else
    some (.inl (some (.int 1)), P)
def lay_X10_hide : Nat → List Value → Option (xL × List Value)
  | 0, [a0, a1, a2] => some ([some a0, some a1, some a2, none], [])
  | 35, [a0, a1, a2, a3] => some ([some a0, some a1, some a2, some a3], [])
  | _, _ => none
def f_X10_hide : Nat → Nat → List Value → xH → xO
  | 0 => fun _ _ _ => none
  | n + 1 => fun pc env P => match pc, env with
    | 0, [.ref a0, .int a1, .int a2] => b_X10_hide_0 n (f_X10_hide n) a0 a1 a2 P
    | 35, [.ref a0, .int a1, .int a2, .int a3] => b_X10_hide_35 n (f_X10_hide n) a0 a1 a2 a3 P
    | _, _ => none
set_option maxHeartbeats 2000000 in
set_option maxRecDepth 20000 in
theorem t_X10_hide_0 {G : xG} {l : Launch} (hl : l.stackTraces = false) {n : Nat} {rec : Nat → List Value → xH → xO} (hrec : ∀ pc env P z, rec pc env P = some z → ∀ L st, lay_X10_hide pc env = some (L, st) → ∀ Q : xR → xH → Prop, Q z.1 z.2 → Wp G l 9 mX10_hide pc L st P Q) {a0 a1 a2} {P : xH} {z : xR × xH} (h : b_X10_hide_0 n rec a0 a1 a2 P = some z) {Q : xR → xH → Prop} (hQ : Q z.1 z.2) : Wp G l 9 mX10_hide 0 [some (.ref a0), some (.int a1), some (.int a2), none] [] P Q := by
  unfold b_X10_hide_0 at h
  refine x_iload_n dX10_hide_0 rfl ?_
  refine x_bipush 16 dX10_hide_1 (by decide) ?_
  obtain ⟨r2, e3, h⟩ := Option.bind_eq_some_iff.mp h
  replace h := xUt_ok h
  rcases h with ⟨P1, hr9, h⟩ | ⟨i8, P8, rfl, rfl⟩
  · subst hr9
    refine x_callS (c_X10_needIndex hl e3) dX10_hide_3 cw_X10_needIndex wl_X10_87 ws_X10_needIndex rfl (by omega) (by decide) rfl (Nat.le_of_ble_eq_true rfl) rfl (fun v9 P9 hq9 => ?_) (fun i9 P9 hq9 => by cases hq9)
    cases hq9
    refine x_aload_nr dX10_hide_6 rfl ?_
    obtain ⟨v4, e5, h⟩ := Option.bind_eq_some_iff.mp h
    refine k_rA e5 dX10_hide_7 f_X10_19 ?_
    refine x_iload_n dX10_hide_10 rfl ?_
    obtain ⟨_, e10, h⟩ := Option.bind_eq_some_iff.mp h
    obtain ⟨fse10, e10⟩ := kO_ok e10
    obtain ⟨r7, e8, h⟩ := Option.bind_eq_some_iff.mp h
    replace h := xI_ok h
    obtain ⟨v9, P6, rfl, h⟩ := h
    refine x_callV (c_X7_isHidden hl e8) dX10_hide_11 cw_X7_isHidden wl_X10_285 wi_X7_isHidden wse_X7_isHidden rfl e10 (by decide) rfl (by omega) (by decide) rfl (Nat.le_of_ble_eq_true rfl) rfl (fun v9 P9 hq9 => ?_) (fun i9 P9 hq9 => by cases hq9)
    cases hq9
    refine x_istore_n dX10_hide_14 (Nat.le_of_ble_eq_true rfl) ?_
    refine x_iload_n dX10_hide_15 rfl ?_
    refine x_iload_n dX10_hide_16 rfl ?_
    refine x_icmp_eq 35 dX10_hide_17 (by decide) (fun q17 => ?_) (fun q17 => ?_)
    · rw [if_pos q17] at h
      exact Wp.mask [true, true, true, true] (hrec 35 _ _ _ h _ _ rfl _ hQ)
    · rw [if_neg q17] at h
      refine x_aload_nr dX10_hide_20 rfl ?_
      obtain ⟨v11, e12, h⟩ := Option.bind_eq_some_iff.mp h
      refine k_rA e12 dX10_hide_21 f_X10_19 ?_
      refine x_dup dX10_hide_24 rfl ?_
      obtain ⟨v13, e14, h⟩ := Option.bind_eq_some_iff.mp h
      refine k_rI e14 dX10_hide_25 f_X10_288 ?_
      refine x_iconst 1 dX10_hide_28 (by decide) ?_
      refine x_iload_n dX10_hide_29 rfl ?_
      refine x_ishl dX10_hide_30 ?_
      refine x_ixor dX10_hide_31 ?_
      obtain ⟨P15, e16, h⟩ := Option.bind_eq_some_iff.mp h
      refine k_wI e16 dX10_hide_32 f_X10_288 (Or.inl (by decide)) rfl ?_
      exact Wp.mask [true, true, true, true] (hrec 35 _ _ _ h _ _ rfl _ hQ)
  · exact x_callS (c_X10_needIndex hl e3) dX10_hide_3 cw_X10_needIndex wl_X10_87 ws_X10_needIndex rfl (by omega) (by decide) rfl (Nat.le_of_ble_eq_true rfl) rfl (fun v9 P9 hq9 => by cases hq9) (fun i9 P9 hq9 => by cases hq9; exact hQ)
set_option maxHeartbeats 2000000 in
set_option maxRecDepth 20000 in
theorem t_X10_hide_35 {G : xG} {l : Launch} (hl : l.stackTraces = false) {n : Nat} {rec : Nat → List Value → xH → xO} (hrec : ∀ pc env P z, rec pc env P = some z → ∀ L st, lay_X10_hide pc env = some (L, st) → ∀ Q : xR → xH → Prop, Q z.1 z.2 → Wp G l 9 mX10_hide pc L st P Q) {a0 a1 a2 a3} {P : xH} {z : xR × xH} (h : b_X10_hide_35 n rec a0 a1 a2 a3 P = some z) {Q : xR → xH → Prop} (hQ : Q z.1 z.2) : Wp G l 9 mX10_hide 35 [some (.ref a0), some (.int a1), some (.int a2), some (.int a3)] [] P Q := by
  unfold b_X10_hide_35 at h
  refine x_iload_n dX10_hide_35 rfl ?_
  refine x_iload_n dX10_hide_36 rfl ?_
  refine x_icmp_eq 44 dX10_hide_37 (by decide) (fun q1 => ?_) (fun q1 => ?_)
  · rw [if_pos q1] at h
    refine x_iconst 0 dX10_hide_44 (by decide) ?_
    cases h
    exact x_iret .boolean rfl rfl dX10_hide_45 hQ
  · rw [if_neg q1] at h
    refine x_iconst 1 dX10_hide_40 (by decide) ?_
    refine x_goto 45 dX10_hide_41 (by decide) ?_
    cases h
    exact x_iret .boolean rfl rfl dX10_hide_45 hQ
theorem s_X10_hide {G : xG} {l : Launch} (hl : l.stackTraces = false) : ∀ n pc env P z, f_X10_hide n pc env P = some z → ∀ L st, lay_X10_hide pc env = some (L, st) → ∀ Q : xR → xH → Prop, Q z.1 z.2 → Wp G l 9 mX10_hide pc L st P Q := by
  intro n
  induction n with
  | zero => intro pc env P z h; cases h
  | succ n ih =>
    intro pc env P z h L st hlay Q hQ
    unfold f_X10_hide at h
    split at h
    · cases hlay
      exact t_X10_hide_0 hl ih h hQ
    · cases hlay
      exact t_X10_hide_35 hl ih h hQ
    · cases h
theorem c_X10_hide {G : xG} {l : Launch} (hl : l.stackTraces = false) {n : Nat} {as : List Value} {P : xH} {z : xR × xH} (h : f_X10_hide n 0 as P = some z) : Ct G l 9 mX10_hide as P (fun r P1 => (r, P1) = z) := by
  cases n with
  | zero => cases h
  | succ n =>
    unfold f_X10_hide at h
    split at h
    · exact Ct.of hl (by decide +kernel) wc_X10_hide (Nat.le_of_ble_eq_true rfl) (t_X10_hide_0 hl (s_X10_hide hl _) h rfl)
    all_goals first | (cases h; done) | (rename_i q9 _; exact absurd q9 (by decide)) | (rename_i q9; exact absurd q9 (by decide)) | contradiction
/-! QuakeNet$Rules.shows(Z)Z -/
def b_X5_shows_0 (n : Nat) (rec : Nat → List Value → xH → xO) (a0 : Nat) (a1 : Int32) (P : xH) : xO :=
  rec 2 [.ref a0, .int a1, .int 0] P
def b_X5_shows_2 (n : Nat) (rec : Nat → List Value → xH → xO) (a0 : Nat) (a1 : Int32) (a2 : Int32) (P : xH) : xO :=
  (rA P a0 5 6).bind fun v1 =>
  (aL P v1).bind fun v3 =>
  if v3 ≤ a2 then
    if a1 = 0 then
      (wV P a0 5 7 (.int 0)).bind fun P5 =>
      rec 40 [.ref a0, .int a1, .int 0] P5
    else
      (wV P a0 5 7 (.int 64)).bind fun P7 =>
      rec 40 [.ref a0, .int a1, .int 0] P7
  else
    (rA P a0 5 6).bind fun v10 =>
    (sI P v10 a2 0).bind fun P12 =>
    rec 2 [.ref a0, .int a1, .int ((a2 + 1))] P12
def b_X5_shows_40 (n : Nat) (rec : Nat → List Value → xH → xO) (a0 : Nat) (a1 : Int32) (a2 : Int32) (P : xH) : xO :=
  (rI P a0 5 3).bind fun v1 =>
  if v1 ≤ a2 then
    some (.inl (some (.int 0)), P)
  else
    (rA P a0 5 0).bind fun v3 =>
    (aI P v3 a2).bind fun v5 =>
    if ¬ v5 = 3 then
      rec 40 [.ref a0, .int a1, .int ((a2 + 1))] P
    else
      (kO P a0 5).bind fun _ =>
      (f_X5_holds n 0 [.ref a0, .int a2] P).bind fun r8 => xI r8 fun v10 P7 =>
      if v10 = 0 then
        rec 40 [.ref a0, .int a1, .int ((a2 + 1))] P7
      else
        some (.inl (some (.int 1)), P7)
def lay_X5_shows : Nat → List Value → Option (xL × List Value)
  | 0, [a0, a1] => some ([some a0, some a1, none], [])
  | 2, [a0, a1, a2] => some ([some a0, some a1, some a2], [])
  | 40, [a0, a1, a2] => some ([some a0, some a1, some a2], [])
  | _, _ => none
def f_X5_shows : Nat → Nat → List Value → xH → xO
  | 0 => fun _ _ _ => none
  | n + 1 => fun pc env P => match pc, env with
    | 0, [.ref a0, .int a1] => b_X5_shows_0 n (f_X5_shows n) a0 a1 P
    | 2, [.ref a0, .int a1, .int a2] => b_X5_shows_2 n (f_X5_shows n) a0 a1 a2 P
    | 40, [.ref a0, .int a1, .int a2] => b_X5_shows_40 n (f_X5_shows n) a0 a1 a2 P
    | _, _ => none
set_option maxHeartbeats 2000000 in
set_option maxRecDepth 20000 in
theorem t_X5_shows_0 {G : xG} {l : Launch} (hl : l.stackTraces = false) {n : Nat} {rec : Nat → List Value → xH → xO} (hrec : ∀ pc env P z, rec pc env P = some z → ∀ L st, lay_X5_shows pc env = some (L, st) → ∀ Q : xR → xH → Prop, Q z.1 z.2 → Wp G l 4 mX5_shows pc L st P Q) {a0 a1} {P : xH} {z : xR × xH} (h : b_X5_shows_0 n rec a0 a1 P = some z) {Q : xR → xH → Prop} (hQ : Q z.1 z.2) : Wp G l 4 mX5_shows 0 [some (.ref a0), some (.int a1), none] [] P Q := by
  unfold b_X5_shows_0 at h
  refine x_iconst 0 dX5_shows_0 (by decide) ?_
  refine x_istore_n dX5_shows_1 (Nat.le_of_ble_eq_true rfl) ?_
  exact Wp.mask [true, true, true] (hrec 2 _ _ _ h _ _ rfl _ hQ)
set_option maxHeartbeats 2000000 in
set_option maxRecDepth 20000 in
theorem t_X5_shows_2 {G : xG} {l : Launch} (hl : l.stackTraces = false) {n : Nat} {rec : Nat → List Value → xH → xO} (hrec : ∀ pc env P z, rec pc env P = some z → ∀ L st, lay_X5_shows pc env = some (L, st) → ∀ Q : xR → xH → Prop, Q z.1 z.2 → Wp G l 4 mX5_shows pc L st P Q) {a0 a1 a2} {P : xH} {z : xR × xH} (h : b_X5_shows_2 n rec a0 a1 a2 P = some z) {Q : xR → xH → Prop} (hQ : Q z.1 z.2) : Wp G l 4 mX5_shows 2 [some (.ref a0), some (.int a1), some (.int a2)] [] P Q := by
  unfold b_X5_shows_2 at h
  refine x_iload_n dX5_shows_2 rfl ?_
  refine x_aload_nr dX5_shows_3 rfl ?_
  obtain ⟨v1, e2, h⟩ := Option.bind_eq_some_iff.mp h
  refine k_rA e2 dX5_shows_4 f_X5_22 ?_
  obtain ⟨v3, e4, h⟩ := Option.bind_eq_some_iff.mp h
  refine k_aL e4 dX5_shows_7 ?_
  refine x_icmp_ge 24 dX5_shows_8 (by decide) (fun q14 => ?_) (fun q14 => ?_)
  · rw [if_pos q14] at h
    refine x_aload_nr dX5_shows_24 rfl ?_
    refine x_iload_n dX5_shows_25 rfl ?_
    refine x_if_eq 34 dX5_shows_26 (by decide) (fun q9 => ?_) (fun q9 => ?_)
    · rw [if_pos q9] at h
      refine x_iconst 0 dX5_shows_34 (by decide) ?_
      obtain ⟨P5, e6, h⟩ := Option.bind_eq_some_iff.mp h
      refine k_wI e6 dX5_shows_35 f_X5_42 (Or.inl (by decide)) rfl ?_
      refine x_iconst 0 dX5_shows_38 (by decide) ?_
      refine x_istore_n dX5_shows_39 (Nat.le_of_ble_eq_true rfl) ?_
      exact Wp.mask [true, true, true] (hrec 40 _ _ _ h _ _ rfl _ hQ)
    · rw [if_neg q9] at h
      refine x_bipush 64 dX5_shows_29 (by decide) ?_
      refine x_goto 35 dX5_shows_31 (by decide) ?_
      obtain ⟨P7, e8, h⟩ := Option.bind_eq_some_iff.mp h
      refine k_wI e8 dX5_shows_35 f_X5_42 (Or.inl (by decide)) rfl ?_
      refine x_iconst 0 dX5_shows_38 (by decide) ?_
      refine x_istore_n dX5_shows_39 (Nat.le_of_ble_eq_true rfl) ?_
      exact Wp.mask [true, true, true] (hrec 40 _ _ _ h _ _ rfl _ hQ)
  · rw [if_neg q14] at h
    refine x_aload_nr dX5_shows_11 rfl ?_
    obtain ⟨v10, e11, h⟩ := Option.bind_eq_some_iff.mp h
    refine k_rA e11 dX5_shows_12 f_X5_22 ?_
    refine x_iload_n dX5_shows_15 rfl ?_
    refine x_iconst 0 dX5_shows_16 (by decide) ?_
    obtain ⟨P12, e13, h⟩ := Option.bind_eq_some_iff.mp h
    refine k_sI e13 dX5_shows_17 ?_
    refine x_iinc (a2 + 1) dX5_shows_18 rfl (by rfl) ?_
    refine x_goto 2 dX5_shows_21 (by decide) ?_
    exact Wp.mask [true, true, true] (hrec 2 _ _ _ h _ _ rfl _ hQ)
set_option maxHeartbeats 2000000 in
set_option maxRecDepth 20000 in
theorem t_X5_shows_40 {G : xG} {l : Launch} (hl : l.stackTraces = false) {n : Nat} {rec : Nat → List Value → xH → xO} (hrec : ∀ pc env P z, rec pc env P = some z → ∀ L st, lay_X5_shows pc env = some (L, st) → ∀ Q : xR → xH → Prop, Q z.1 z.2 → Wp G l 4 mX5_shows pc L st P Q) {a0 a1 a2} {P : xH} {z : xR × xH} (h : b_X5_shows_40 n rec a0 a1 a2 P = some z) {Q : xR → xH → Prop} (hQ : Q z.1 z.2) : Wp G l 4 mX5_shows 40 [some (.ref a0), some (.int a1), some (.int a2)] [] P Q := by
  unfold b_X5_shows_40 at h
  refine x_iload_n dX5_shows_40 rfl ?_
  refine x_aload_nr dX5_shows_41 rfl ?_
  obtain ⟨v1, e2, h⟩ := Option.bind_eq_some_iff.mp h
  refine k_rI e2 dX5_shows_42 f_X5_25 ?_
  refine x_icmp_ge 74 dX5_shows_45 (by decide) (fun q14 => ?_) (fun q14 => ?_)
  · rw [if_pos q14] at h
    refine x_iconst 0 dX5_shows_74 (by decide) ?_
    cases h
    exact x_iret .boolean rfl rfl dX5_shows_75 hQ
  · rw [if_neg q14] at h
    refine x_aload_nr dX5_shows_48 rfl ?_
    obtain ⟨v3, e4, h⟩ := Option.bind_eq_some_iff.mp h
    refine k_rA e4 dX5_shows_49 f_X5_9 ?_
    refine x_iload_n dX5_shows_52 rfl ?_
    obtain ⟨v5, e6, h⟩ := Option.bind_eq_some_iff.mp h
    refine k_aI e6 dX5_shows_53 ?_
    refine x_iconst 3 dX5_shows_54 (by decide) ?_
    refine x_icmp_ne 68 dX5_shows_55 (by decide) (fun q13 => ?_) (fun q13 => ?_)
    · rw [if_pos q13] at h
      refine x_iinc (a2 + 1) dX5_shows_68 rfl (by rfl) ?_
      refine x_goto 40 dX5_shows_71 (by decide) ?_
      exact Wp.mask [true, true, true] (hrec 40 _ _ _ h _ _ rfl _ hQ)
    · rw [if_neg (fun z9 => z9 q13)] at h
      refine x_aload_nr dX5_shows_58 rfl ?_
      refine x_iload_n dX5_shows_59 rfl ?_
      obtain ⟨_, e11, h⟩ := Option.bind_eq_some_iff.mp h
      obtain ⟨fse11, e11⟩ := kO_ok e11
      obtain ⟨r8, e9, h⟩ := Option.bind_eq_some_iff.mp h
      replace h := xI_ok h
      obtain ⟨v10, P7, rfl, h⟩ := h
      refine x_callV (c_X5_holds hl e9) dX5_shows_60 cw_X5_holds wl_X5_38 wi_X5_holds wse_X5_holds rfl e11 (by decide) rfl (by omega) (by decide) rfl (Nat.le_of_ble_eq_true rfl) rfl (fun v9 P9 hq9 => ?_) (fun i9 P9 hq9 => by cases hq9)
      cases hq9
      refine x_if_eq 68 dX5_shows_63 (by decide) (fun q12 => ?_) (fun q12 => ?_)
      · rw [if_pos q12] at h
        refine x_iinc (a2 + 1) dX5_shows_68 rfl (by rfl) ?_
        refine x_goto 40 dX5_shows_71 (by decide) ?_
        exact Wp.mask [true, true, true] (hrec 40 _ _ _ h _ _ rfl _ hQ)
      · rw [if_neg q12] at h
        refine x_iconst 1 dX5_shows_66 (by decide) ?_
        cases h
        exact x_iret .boolean rfl rfl dX5_shows_67 hQ
theorem s_X5_shows {G : xG} {l : Launch} (hl : l.stackTraces = false) : ∀ n pc env P z, f_X5_shows n pc env P = some z → ∀ L st, lay_X5_shows pc env = some (L, st) → ∀ Q : xR → xH → Prop, Q z.1 z.2 → Wp G l 4 mX5_shows pc L st P Q := by
  intro n
  induction n with
  | zero => intro pc env P z h; cases h
  | succ n ih =>
    intro pc env P z h L st hlay Q hQ
    unfold f_X5_shows at h
    split at h
    · cases hlay
      exact t_X5_shows_0 hl ih h hQ
    · cases hlay
      exact t_X5_shows_2 hl ih h hQ
    · cases hlay
      exact t_X5_shows_40 hl ih h hQ
    · cases h
theorem c_X5_shows {G : xG} {l : Launch} (hl : l.stackTraces = false) {n : Nat} {as : List Value} {P : xH} {z : xR × xH} (h : f_X5_shows n 0 as P = some z) : Ct G l 4 mX5_shows as P (fun r P1 => (r, P1) = z) := by
  cases n with
  | zero => cases h
  | succ n =>
    unfold f_X5_shows at h
    split at h
    · exact Ct.of hl (by decide +kernel) wc_X5_shows (Nat.le_of_ble_eq_true rfl) (t_X5_shows_0 hl (s_X5_shows hl _) h rfl)
    all_goals first | (cases h; done) | (rename_i q9 _; exact absurd q9 (by decide)) | (rename_i q9; exact absurd q9 (by decide)) | contradiction
/-! QuakeNet.ask(IZ)I -/
def b_X10_ask_0 (n : Nat) (rec : Nat → List Value → xH → xO) (a0 : Nat) (a1 : Int32) (a2 : Int32) (P : xH) : xO :=
  (f_X10_needIndex n 0 [.int a1, .int 16] P).bind fun r2 => xUt r2 fun P1 =>
  (rA P1 a0 10 3).bind fun v4 =>
  (rA P1 a0 10 1).bind fun v6 =>
  (rA P1 v6 7 3).bind fun v8 =>
  (rI P1 v8 1 2).bind fun v10 =>
  (kO P1 v4 6).bind fun _ =>
  (f_X6_gather n 0 [.ref v4, .int a1, .int v10] P1).bind fun r13 => xU r13 fun P12 =>
  (rA P12 a0 10 3).bind fun v16 =>
  (rI P12 v16 6 4).bind fun v18 =>
  if v18 = 0 then
    some (.inl (some (.int 0)), P12)
  else
    (rA P12 a0 10 1).bind fun v20 =>
    (kO P12 v20 7).bind fun _ =>
    (f_X7_isHidden n 0 [.ref v20, .int a1] P12).bind fun r23 => xI r23 fun v25 P22 =>
    if v25 = 0 then
      rec 61 [.ref a0, .int a1, .int a2] P22
    else
      (rA P22 a0 10 1).bind fun v27 =>
      (rA P22 v27 7 0).bind fun v29 =>
      (kO P22 v29 5).bind fun _ =>
      (f_X5_shows n 0 [.ref v29, .int a2] P22).bind fun r32 => xI r32 fun v34 P31 =>
      if ¬ v34 = 0 then
        rec 61 [.ref a0, .int a1, .int a2] P31
      else
        some (.inl (some (.int 0)), P31)
def b_X10_ask_61 (n : Nat) (rec : Nat → List Value → xH → xO) (a0 : Nat) (a1 : Int32) (a2 : Int32) (P : xH) : xO :=
  (rA P a0 10 3).bind fun v1 =>
  (rA P a0 10 1).bind fun v3 =>
  (rA P v3 7 3).bind fun v5 =>
  (rI P v5 1 2).bind fun v7 =>
  (rA P a0 10 1).bind fun v9 =>
  (rI P v9 7 8).bind fun v11 =>
  (kO P v1 6).bind fun _ =>
  (f_X6_placesLeft n 0 [.ref v1, .int v7, .int v11] P).bind fun r14 => xI r14 fun v16 P13 =>
  some (.inl (some (.int v16)), P13)
def lay_X10_ask : Nat → List Value → Option (xL × List Value)
  | 0, [a0, a1, a2] => some ([some a0, some a1, some a2], [])
  | 61, [a0, a1, a2] => some ([some a0, some a1, some a2], [])
  | _, _ => none
def f_X10_ask : Nat → Nat → List Value → xH → xO
  | 0 => fun _ _ _ => none
  | n + 1 => fun pc env P => match pc, env with
    | 0, [.ref a0, .int a1, .int a2] => b_X10_ask_0 n (f_X10_ask n) a0 a1 a2 P
    | 61, [.ref a0, .int a1, .int a2] => b_X10_ask_61 n (f_X10_ask n) a0 a1 a2 P
    | _, _ => none
set_option maxHeartbeats 2000000 in
set_option maxRecDepth 20000 in
theorem t_X10_ask_0 {G : xG} {l : Launch} (hl : l.stackTraces = false) {n : Nat} {rec : Nat → List Value → xH → xO} (hrec : ∀ pc env P z, rec pc env P = some z → ∀ L st, lay_X10_ask pc env = some (L, st) → ∀ Q : xR → xH → Prop, Q z.1 z.2 → Wp G l 10 mX10_ask pc L st P Q) {a0 a1 a2} {P : xH} {z : xR × xH} (h : b_X10_ask_0 n rec a0 a1 a2 P = some z) {Q : xR → xH → Prop} (hQ : Q z.1 z.2) : Wp G l 10 mX10_ask 0 [some (.ref a0), some (.int a1), some (.int a2)] [] P Q := by
  unfold b_X10_ask_0 at h
  refine x_iload_n dX10_ask_0 rfl ?_
  refine x_bipush 16 dX10_ask_1 (by decide) ?_
  obtain ⟨r2, e3, h⟩ := Option.bind_eq_some_iff.mp h
  replace h := xUt_ok h
  rcases h with ⟨P1, hr9, h⟩ | ⟨i8, P8, rfl, rfl⟩
  · subst hr9
    refine x_callS (c_X10_needIndex hl e3) dX10_ask_3 cw_X10_needIndex wl_X10_87 ws_X10_needIndex rfl (by omega) (by decide) rfl (Nat.le_of_ble_eq_true rfl) rfl (fun v9 P9 hq9 => ?_) (fun i9 P9 hq9 => by cases hq9)
    cases hq9
    refine x_aload_nr dX10_ask_6 rfl ?_
    obtain ⟨v4, e5, h⟩ := Option.bind_eq_some_iff.mp h
    refine k_rA e5 dX10_ask_7 f_X10_48 ?_
    refine x_iload_n dX10_ask_10 rfl ?_
    refine x_aload_nr dX10_ask_11 rfl ?_
    obtain ⟨v6, e7, h⟩ := Option.bind_eq_some_iff.mp h
    refine k_rA e7 dX10_ask_12 f_X10_19 ?_
    obtain ⟨v8, e9, h⟩ := Option.bind_eq_some_iff.mp h
    refine k_rA e9 dX10_ask_15 f_X10_42 ?_
    obtain ⟨v10, e11, h⟩ := Option.bind_eq_some_iff.mp h
    refine k_rI e11 dX10_ask_18 f_X10_93 ?_
    obtain ⟨_, e15, h⟩ := Option.bind_eq_some_iff.mp h
    obtain ⟨fse15, e15⟩ := kO_ok e15
    obtain ⟨r13, e14, h⟩ := Option.bind_eq_some_iff.mp h
    replace h := xU_ok h
    obtain ⟨P12, rfl, h⟩ := h
    refine x_callV (c_X6_gather hl e14) dX10_ask_21 cw_X6_gather wl_X10_201 wi_X6_gather wse_X6_gather rfl e15 (by decide) rfl (by omega) (by decide) rfl (Nat.le_of_ble_eq_true rfl) rfl (fun v9 P9 hq9 => ?_) (fun i9 P9 hq9 => by cases hq9)
    cases hq9
    refine x_aload_nr dX10_ask_24 rfl ?_
    obtain ⟨v16, e17, h⟩ := Option.bind_eq_some_iff.mp h
    refine k_rA e17 dX10_ask_25 f_X10_48 ?_
    obtain ⟨v18, e19, h⟩ := Option.bind_eq_some_iff.mp h
    refine k_rI e19 dX10_ask_28 f_X10_212 ?_
    refine x_if_eq 59 dX10_ask_31 (by decide) (fun q38 => ?_) (fun q38 => ?_)
    · rw [if_pos q38] at h
      refine x_iconst 0 dX10_ask_59 (by decide) ?_
      cases h
      exact x_iret .int rfl rfl dX10_ask_60 hQ
    · rw [if_neg q38] at h
      refine x_aload_nr dX10_ask_34 rfl ?_
      obtain ⟨v20, e21, h⟩ := Option.bind_eq_some_iff.mp h
      refine k_rA e21 dX10_ask_35 f_X10_19 ?_
      refine x_iload_n dX10_ask_38 rfl ?_
      obtain ⟨_, e26, h⟩ := Option.bind_eq_some_iff.mp h
      obtain ⟨fse26, e26⟩ := kO_ok e26
      obtain ⟨r23, e24, h⟩ := Option.bind_eq_some_iff.mp h
      replace h := xI_ok h
      obtain ⟨v25, P22, rfl, h⟩ := h
      refine x_callV (c_X7_isHidden hl e24) dX10_ask_39 cw_X7_isHidden wl_X10_285 wi_X7_isHidden wse_X7_isHidden rfl e26 (by decide) rfl (by omega) (by decide) rfl (Nat.le_of_ble_eq_true rfl) rfl (fun v9 P9 hq9 => ?_) (fun i9 P9 hq9 => by cases hq9)
      cases hq9
      refine x_if_eq 61 dX10_ask_42 (by decide) (fun q37 => ?_) (fun q37 => ?_)
      · rw [if_pos q37] at h
        exact Wp.mask [true, true, true] (hrec 61 _ _ _ h _ _ rfl _ hQ)
      · rw [if_neg q37] at h
        refine x_aload_nr dX10_ask_45 rfl ?_
        obtain ⟨v27, e28, h⟩ := Option.bind_eq_some_iff.mp h
        refine k_rA e28 dX10_ask_46 f_X10_19 ?_
        obtain ⟨v29, e30, h⟩ := Option.bind_eq_some_iff.mp h
        refine k_rA e30 dX10_ask_49 f_X10_29 ?_
        refine x_iload_n dX10_ask_52 rfl ?_
        obtain ⟨_, e35, h⟩ := Option.bind_eq_some_iff.mp h
        obtain ⟨fse35, e35⟩ := kO_ok e35
        obtain ⟨r32, e33, h⟩ := Option.bind_eq_some_iff.mp h
        replace h := xI_ok h
        obtain ⟨v34, P31, rfl, h⟩ := h
        refine x_callV (c_X5_shows hl e33) dX10_ask_53 cw_X5_shows wl_X10_291 wi_X5_shows wse_X5_shows rfl e35 (by decide) rfl (by omega) (by decide) rfl (Nat.le_of_ble_eq_true rfl) rfl (fun v9 P9 hq9 => ?_) (fun i9 P9 hq9 => by cases hq9)
        cases hq9
        refine x_if_ne 61 dX10_ask_56 (by decide) (fun q36 => ?_) (fun q36 => ?_)
        · rw [if_pos q36] at h
          exact Wp.mask [true, true, true] (hrec 61 _ _ _ h _ _ rfl _ hQ)
        · rw [if_neg (fun z9 => z9 q36)] at h
          refine x_iconst 0 dX10_ask_59 (by decide) ?_
          cases h
          exact x_iret .int rfl rfl dX10_ask_60 hQ
  · exact x_callS (c_X10_needIndex hl e3) dX10_ask_3 cw_X10_needIndex wl_X10_87 ws_X10_needIndex rfl (by omega) (by decide) rfl (Nat.le_of_ble_eq_true rfl) rfl (fun v9 P9 hq9 => by cases hq9) (fun i9 P9 hq9 => by cases hq9; exact hQ)
set_option maxHeartbeats 2000000 in
set_option maxRecDepth 20000 in
theorem t_X10_ask_61 {G : xG} {l : Launch} (hl : l.stackTraces = false) {n : Nat} {rec : Nat → List Value → xH → xO} (hrec : ∀ pc env P z, rec pc env P = some z → ∀ L st, lay_X10_ask pc env = some (L, st) → ∀ Q : xR → xH → Prop, Q z.1 z.2 → Wp G l 10 mX10_ask pc L st P Q) {a0 a1 a2} {P : xH} {z : xR × xH} (h : b_X10_ask_61 n rec a0 a1 a2 P = some z) {Q : xR → xH → Prop} (hQ : Q z.1 z.2) : Wp G l 10 mX10_ask 61 [some (.ref a0), some (.int a1), some (.int a2)] [] P Q := by
  unfold b_X10_ask_61 at h
  refine x_aload_nr dX10_ask_61 rfl ?_
  obtain ⟨v1, e2, h⟩ := Option.bind_eq_some_iff.mp h
  refine k_rA e2 dX10_ask_62 f_X10_48 ?_
  refine x_aload_nr dX10_ask_65 rfl ?_
  obtain ⟨v3, e4, h⟩ := Option.bind_eq_some_iff.mp h
  refine k_rA e4 dX10_ask_66 f_X10_19 ?_
  obtain ⟨v5, e6, h⟩ := Option.bind_eq_some_iff.mp h
  refine k_rA e6 dX10_ask_69 f_X10_42 ?_
  obtain ⟨v7, e8, h⟩ := Option.bind_eq_some_iff.mp h
  refine k_rI e8 dX10_ask_72 f_X10_93 ?_
  refine x_aload_nr dX10_ask_75 rfl ?_
  obtain ⟨v9, e10, h⟩ := Option.bind_eq_some_iff.mp h
  refine k_rA e10 dX10_ask_76 f_X10_19 ?_
  obtain ⟨v11, e12, h⟩ := Option.bind_eq_some_iff.mp h
  refine k_rI e12 dX10_ask_79 f_X10_213 ?_
  obtain ⟨_, e17, h⟩ := Option.bind_eq_some_iff.mp h
  obtain ⟨fse17, e17⟩ := kO_ok e17
  obtain ⟨r14, e15, h⟩ := Option.bind_eq_some_iff.mp h
  replace h := xI_ok h
  obtain ⟨v16, P13, rfl, h⟩ := h
  refine x_callV (c_X6_placesLeft hl e15) dX10_ask_82 cw_X6_placesLeft wl_X10_216 wi_X6_placesLeft wse_X6_placesLeft rfl e17 (by decide) rfl (by omega) (by decide) rfl (Nat.le_of_ble_eq_true rfl) rfl (fun v9 P9 hq9 => ?_) (fun i9 P9 hq9 => by cases hq9)
  cases hq9
  cases h
  exact x_iret .int rfl rfl dX10_ask_85 hQ
theorem s_X10_ask {G : xG} {l : Launch} (hl : l.stackTraces = false) : ∀ n pc env P z, f_X10_ask n pc env P = some z → ∀ L st, lay_X10_ask pc env = some (L, st) → ∀ Q : xR → xH → Prop, Q z.1 z.2 → Wp G l 10 mX10_ask pc L st P Q := by
  intro n
  induction n with
  | zero => intro pc env P z h; cases h
  | succ n ih =>
    intro pc env P z h L st hlay Q hQ
    unfold f_X10_ask at h
    split at h
    · cases hlay
      exact t_X10_ask_0 hl ih h hQ
    · cases hlay
      exact t_X10_ask_61 hl ih h hQ
    · cases h
theorem c_X10_ask {G : xG} {l : Launch} (hl : l.stackTraces = false) {n : Nat} {as : List Value} {P : xH} {z : xR × xH} (h : f_X10_ask n 0 as P = some z) : Ct G l 10 mX10_ask as P (fun r P1 => (r, P1) = z) := by
  cases n with
  | zero => cases h
  | succ n =>
    unfold f_X10_ask at h
    split at h
    · exact Ct.of hl (by decide +kernel) wc_X10_ask (Nat.le_of_ble_eq_true rfl) (t_X10_ask_0 hl (s_X10_ask hl _) h rfl)
    all_goals first | (cases h; done) | (rename_i q9 _; exact absurd q9 (by decide)) | (rename_i q9; exact absurd q9 (by decide)) | contradiction
/-! QuakeNet.beginTrial(LQuakeNet$Rules;)V -/
def b_X10_beginTrial_0 (n : Nat) (rec : Nat → List Value → xH → xO) (a0 : Nat) (a1 : Nat) (P : xH) : xO :=
  (rA P a0 10 2).bind fun v1 =>
  (rA P a0 10 1).bind fun v3 =>
  (rA P v3 7 3).bind fun v5 =>
  (rI P v5 1 2).bind fun v7 =>
  if ¬ v7 = 0 then
    (rA P a0 10 1).bind fun v9 =>
    (rA P v9 7 4).bind fun v11 =>
    rec 34 [.ref a0, .ref a1, .ref v1, .ref v11] P
  else
    (rA P a0 10 1).bind fun v13 =>
    (rA P v13 7 3).bind fun v15 =>
    rec 34 [.ref a0, .ref a1, .ref v1, .ref v15] P
def b_X10_beginTrial_34 (n : Nat) (rec : Nat → List Value → xH → xO) (a0 : Nat) (a1 : Nat) (s0 : Nat) (s1 : Nat) (P : xH) : xO :=
  (kO P s0 1).bind fun _ =>
  (f_X1_become n 0 [.ref s0, .ref s1] P).bind fun r2 => xU r2 fun P1 =>
  (rA P1 a0 10 2).bind fun v5 =>
  (wV P1 v5 1 1 (.ref a1)).bind fun P7 =>
  some (.inl none, P7)
def lay_X10_beginTrial : Nat → List Value → Option (xL × List Value)
  | 0, [a0, a1] => some ([some a0, some a1], [])
  | 34, [a0, a1, s0, s1] => some ([some a0, some a1], [s1, s0])
  | _, _ => none
def f_X10_beginTrial : Nat → Nat → List Value → xH → xO
  | 0 => fun _ _ _ => none
  | n + 1 => fun pc env P => match pc, env with
    | 0, [.ref a0, .ref a1] => b_X10_beginTrial_0 n (f_X10_beginTrial n) a0 a1 P
    | 34, [.ref a0, .ref a1, .ref s0, .ref s1] => b_X10_beginTrial_34 n (f_X10_beginTrial n) a0 a1 s0 s1 P
    | _, _ => none
set_option maxHeartbeats 2000000 in
set_option maxRecDepth 20000 in
theorem t_X10_beginTrial_0 {G : xG} {l : Launch} (hl : l.stackTraces = false) {n : Nat} {rec : Nat → List Value → xH → xO} (hrec : ∀ pc env P z, rec pc env P = some z → ∀ L st, lay_X10_beginTrial pc env = some (L, st) → ∀ Q : xR → xH → Prop, Q z.1 z.2 → Wp G l 10 mX10_beginTrial pc L st P Q) {a0 a1} {P : xH} {z : xR × xH} (h : b_X10_beginTrial_0 n rec a0 a1 P = some z) {Q : xR → xH → Prop} (hQ : Q z.1 z.2) : Wp G l 10 mX10_beginTrial 0 [some (.ref a0), some (.ref a1)] [] P Q := by
  unfold b_X10_beginTrial_0 at h
  refine x_aload_nr dX10_beginTrial_0 rfl ?_
  obtain ⟨v1, e2, h⟩ := Option.bind_eq_some_iff.mp h
  refine k_rA e2 dX10_beginTrial_1 f_X10_36 ?_
  refine x_aload_nr dX10_beginTrial_4 rfl ?_
  obtain ⟨v3, e4, h⟩ := Option.bind_eq_some_iff.mp h
  refine k_rA e4 dX10_beginTrial_5 f_X10_19 ?_
  obtain ⟨v5, e6, h⟩ := Option.bind_eq_some_iff.mp h
  refine k_rA e6 dX10_beginTrial_8 f_X10_42 ?_
  obtain ⟨v7, e8, h⟩ := Option.bind_eq_some_iff.mp h
  refine k_rI e8 dX10_beginTrial_11 f_X10_93 ?_
  refine x_if_ne 27 dX10_beginTrial_14 (by decide) (fun q17 => ?_) (fun q17 => ?_)
  · rw [if_pos q17] at h
    refine x_aload_nr dX10_beginTrial_27 rfl ?_
    obtain ⟨v9, e10, h⟩ := Option.bind_eq_some_iff.mp h
    refine k_rA e10 dX10_beginTrial_28 f_X10_19 ?_
    obtain ⟨v11, e12, h⟩ := Option.bind_eq_some_iff.mp h
    refine k_rA e12 dX10_beginTrial_31 f_X10_371 ?_
    exact Wp.mask [true, true] (hrec 34 _ _ _ h _ _ rfl _ hQ)
  · rw [if_neg (fun z9 => z9 q17)] at h
    refine x_aload_nr dX10_beginTrial_17 rfl ?_
    obtain ⟨v13, e14, h⟩ := Option.bind_eq_some_iff.mp h
    refine k_rA e14 dX10_beginTrial_18 f_X10_19 ?_
    obtain ⟨v15, e16, h⟩ := Option.bind_eq_some_iff.mp h
    refine k_rA e16 dX10_beginTrial_21 f_X10_42 ?_
    refine x_goto 34 dX10_beginTrial_24 (by decide) ?_
    exact Wp.mask [true, true] (hrec 34 _ _ _ h _ _ rfl _ hQ)
set_option maxHeartbeats 2000000 in
set_option maxRecDepth 20000 in
theorem t_X10_beginTrial_34 {G : xG} {l : Launch} (hl : l.stackTraces = false) {n : Nat} {rec : Nat → List Value → xH → xO} (hrec : ∀ pc env P z, rec pc env P = some z → ∀ L st, lay_X10_beginTrial pc env = some (L, st) → ∀ Q : xR → xH → Prop, Q z.1 z.2 → Wp G l 10 mX10_beginTrial pc L st P Q) {a0 a1 s0 s1} {P : xH} {z : xR × xH} (h : b_X10_beginTrial_34 n rec a0 a1 s0 s1 P = some z) {Q : xR → xH → Prop} (hQ : Q z.1 z.2) : Wp G l 10 mX10_beginTrial 34 [some (.ref a0), some (.ref a1)] [.ref s1, .ref s0] P Q := by
  unfold b_X10_beginTrial_34 at h
  obtain ⟨_, e4, h⟩ := Option.bind_eq_some_iff.mp h
  obtain ⟨fse4, e4⟩ := kO_ok e4
  obtain ⟨r2, e3, h⟩ := Option.bind_eq_some_iff.mp h
  replace h := xU_ok h
  obtain ⟨P1, rfl, h⟩ := h
  refine x_callV (c_X1_become hl e3) dX10_beginTrial_34 cw_X1_become wl_X10_374 wi_X1_become wse_X1_become rfl e4 (by decide) rfl (by omega) (by decide) rfl (Nat.le_of_ble_eq_true rfl) rfl (fun v9 P9 hq9 => ?_) (fun i9 P9 hq9 => by cases hq9)
  cases hq9
  refine x_aload_nr dX10_beginTrial_37 rfl ?_
  obtain ⟨v5, e6, h⟩ := Option.bind_eq_some_iff.mp h
  refine k_rA e6 dX10_beginTrial_38 f_X10_36 ?_
  refine x_aload_nr dX10_beginTrial_41 rfl ?_
  obtain ⟨P7, e8, h⟩ := Option.bind_eq_some_iff.mp h
  refine k_wA e8 dX10_beginTrial_42 f_X10_377 (Or.inl (by decide)) rfl ?_
  cases h
  exact x_ret rfl dX10_beginTrial_45 hQ
theorem s_X10_beginTrial {G : xG} {l : Launch} (hl : l.stackTraces = false) : ∀ n pc env P z, f_X10_beginTrial n pc env P = some z → ∀ L st, lay_X10_beginTrial pc env = some (L, st) → ∀ Q : xR → xH → Prop, Q z.1 z.2 → Wp G l 10 mX10_beginTrial pc L st P Q := by
  intro n
  induction n with
  | zero => intro pc env P z h; cases h
  | succ n ih =>
    intro pc env P z h L st hlay Q hQ
    unfold f_X10_beginTrial at h
    split at h
    · cases hlay
      exact t_X10_beginTrial_0 hl ih h hQ
    · cases hlay
      exact t_X10_beginTrial_34 hl ih h hQ
    · cases h
theorem c_X10_beginTrial {G : xG} {l : Launch} (hl : l.stackTraces = false) {n : Nat} {as : List Value} {P : xH} {z : xR × xH} (h : f_X10_beginTrial n 0 as P = some z) : Ct G l 10 mX10_beginTrial as P (fun r P1 => (r, P1) = z) := by
  cases n with
  | zero => cases h
  | succ n =>
    unfold f_X10_beginTrial at h
    split at h
    · exact Ct.of hl (by decide +kernel) wc_X10_beginTrial (Nat.le_of_ble_eq_true rfl) (t_X10_beginTrial_0 hl (s_X10_beginTrial hl _) h rfl)
    all_goals first | (cases h; done) | (rename_i q9 _; exact absurd q9 (by decide)) | (rename_i q9; exact absurd q9 (by decide)) | contradiction
