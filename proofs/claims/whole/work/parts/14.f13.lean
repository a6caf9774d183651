/-! QuakeNet$Net.tellDue()V -/
def b_X1_tellDue_0 (n : Nat) (rec : Nat → List Value → xH → xO) (a0 : Nat) (P : xH) : xO :=
  (rI P a0 1 4).bind fun v1 =>
  rec 5 [.ref a0, .int v1] P
def b_X1_tellDue_5 (n : Nat) (rec : Nat → List Value → xH → xO) (a0 : Nat) (a1 : Int32) (P : xH) : xO :=
  (rA P a0 1 0).bind fun v1 =>
  (rI P v1 9 3).bind fun v3 =>
  if v3 ≤ a1 then
    some (.inl none, P)
  else
    (rA P a0 1 0).bind fun v5 =>
    (rA P v5 9 0).bind fun v7 =>
    (aA P v7 2).bind fun v9 =>
    (aI P v9 a1).bind fun v11 =>
    (rI P a0 1 2).bind fun v13 =>
    if v13 < v11 then
      some (.inl none, P)
    else
      (kO P a0 1).bind fun _ =>
      (f_X1_tellNext n 0 [.ref a0] P).bind fun r16 => xU r16 fun P15 =>
      rec 5 [.ref a0, .int ((a1 + 1))] P15
def lay_X1_tellDue : Nat → List Value → Option (xL × List Value)
  | 0, [a0] => some ([some a0, none], [])
  | 5, [a0, a1] => some ([some a0, some a1], [])
  | _, _ => none
def f_X1_tellDue : Nat → Nat → List Value → xH → xO
  | 0 => fun _ _ _ => none
  | n + 1 => fun pc env P => match pc, env with
    | 0, [.ref a0] => b_X1_tellDue_0 n (f_X1_tellDue n) a0 P
    | 5, [.ref a0, .int a1] => b_X1_tellDue_5 n (f_X1_tellDue n) a0 a1 P
    | _, _ => none
set_option maxHeartbeats 2000000 in
set_option maxRecDepth 20000 in
theorem t_X1_tellDue_0 {G : xG} {l : Launch} (hl : l.stackTraces = false) {n : Nat} {rec : Nat → List Value → xH → xO} (hrec : ∀ pc env P z, rec pc env P = some z → ∀ L st, lay_X1_tellDue pc env = some (L, st) → ∀ Q : xR → xH → Prop, Q z.1 z.2 → Wp G l 7 mX1_tellDue pc L st P Q) {a0} {P : xH} {z : xR × xH} (h : b_X1_tellDue_0 n rec a0 P = some z) {Q : xR → xH → Prop} (hQ : Q z.1 z.2) : Wp G l 7 mX1_tellDue 0 [some (.ref a0), none] [] P Q := by
  unfold b_X1_tellDue_0 at h
  refine x_aload_nr dX1_tellDue_0 rfl ?_
  obtain ⟨v1, e2, h⟩ := Option.bind_eq_some_iff.mp h
  refine k_rI e2 dX1_tellDue_1 f_X1_63 ?_
  refine x_istore_n dX1_tellDue_4 (Nat.le_of_ble_eq_true rfl) ?_
  exact Wp.mask [true, true] (hrec 5 _ _ _ h _ _ rfl _ hQ)
set_option maxHeartbeats 2000000 in
set_option maxRecDepth 20000 in
theorem t_X1_tellDue_5 {G : xG} {l : Launch} (hl : l.stackTraces = false) {n : Nat} {rec : Nat → List Value → xH → xO} (hrec : ∀ pc env P z, rec pc env P = some z → ∀ L st, lay_X1_tellDue pc env = some (L, st) → ∀ Q : xR → xH → Prop, Q z.1 z.2 → Wp G l 7 mX1_tellDue pc L st P Q) {a0 a1} {P : xH} {z : xR × xH} (h : b_X1_tellDue_5 n rec a0 a1 P = some z) {Q : xR → xH → Prop} (hQ : Q z.1 z.2) : Wp G l 7 mX1_tellDue 5 [some (.ref a0), some (.int a1)] [] P Q := by
  unfold b_X1_tellDue_5 at h
  refine x_iload_n dX1_tellDue_5 rfl ?_
  refine x_aload_nr dX1_tellDue_6 rfl ?_
  obtain ⟨v1, e2, h⟩ := Option.bind_eq_some_iff.mp h
  refine k_rA e2 dX1_tellDue_7 f_X1_42 ?_
  obtain ⟨v3, e4, h⟩ := Option.bind_eq_some_iff.mp h
  refine k_rI e4 dX1_tellDue_10 f_X1_91 ?_
  refine x_icmp_ge 44 dX1_tellDue_13 (by decide) (fun q20 => ?_) (fun q20 => ?_)
  · rw [if_pos q20] at h
    cases h
    exact x_ret rfl dX1_tellDue_44 hQ
  · rw [if_neg q20] at h
    refine x_aload_nr dX1_tellDue_16 rfl ?_
    obtain ⟨v5, e6, h⟩ := Option.bind_eq_some_iff.mp h
    refine k_rA e6 dX1_tellDue_17 f_X1_42 ?_
    obtain ⟨v7, e8, h⟩ := Option.bind_eq_some_iff.mp h
    refine k_rA e8 dX1_tellDue_20 f_X1_82 ?_
    refine x_iconst 2 dX1_tellDue_23 (by decide) ?_
    obtain ⟨v9, e10, h⟩ := Option.bind_eq_some_iff.mp h
    refine k_aA e10 dX1_tellDue_24 ?_
    refine x_iload_n dX1_tellDue_25 rfl ?_
    obtain ⟨v11, e12, h⟩ := Option.bind_eq_some_iff.mp h
    refine k_aI e12 dX1_tellDue_26 ?_
    refine x_aload_nr dX1_tellDue_27 rfl ?_
    obtain ⟨v13, e14, h⟩ := Option.bind_eq_some_iff.mp h
    refine k_rI e14 dX1_tellDue_28 f_X1_56 ?_
    refine x_icmp_gt 44 dX1_tellDue_31 (by decide) (fun q19 => ?_) (fun q19 => ?_)
    · rw [if_pos q19] at h
      cases h
      exact x_ret rfl dX1_tellDue_44 hQ
    · rw [if_neg q19] at h
      refine x_aload_nr dX1_tellDue_34 rfl ?_
      obtain ⟨_, e18, h⟩ := Option.bind_eq_some_iff.mp h
      obtain ⟨fse18, e18⟩ := kO_ok e18
      obtain ⟨r16, e17, h⟩ := Option.bind_eq_some_iff.mp h
      replace h := xU_ok h
      obtain ⟨P15, rfl, h⟩ := h
      refine x_callV (c_X1_tellNext hl e17) dX1_tellDue_35 cw_X1_tellNext wl_X1_94 wi_X1_tellNext wse_X1_tellNext rfl e18 (by decide) rfl (by omega) (by decide) rfl (Nat.le_of_ble_eq_true rfl) rfl (fun v9 P9 hq9 => ?_) (fun i9 P9 hq9 => by cases hq9)
      cases hq9
      refine x_iinc (a1 + 1) dX1_tellDue_38 rfl (by rfl) ?_
      refine x_goto 5 dX1_tellDue_41 (by decide) ?_
      exact Wp.mask [true, true] (hrec 5 _ _ _ h _ _ rfl _ hQ)
theorem s_X1_tellDue {G : xG} {l : Launch} (hl : l.stackTraces = false) : ∀ n pc env P z, f_X1_tellDue n pc env P = some z → ∀ L st, lay_X1_tellDue pc env = some (L, st) → ∀ Q : xR → xH → Prop, Q z.1 z.2 → Wp G l 7 mX1_tellDue pc L st P Q := by
  intro n
  induction n with
  | zero => intro pc env P z h; cases h
  | succ n ih =>
    intro pc env P z h L st hlay Q hQ
    unfold f_X1_tellDue at h
    split at h
    · cases hlay
      exact t_X1_tellDue_0 hl ih h hQ
    · cases hlay
      exact t_X1_tellDue_5 hl ih h hQ
    · cases h
theorem c_X1_tellDue {G : xG} {l : Launch} (hl : l.stackTraces = false) {n : Nat} {as : List Value} {P : xH} {z : xR × xH} (h : f_X1_tellDue n 0 as P = some z) : Ct G l 7 mX1_tellDue as P (fun r P1 => (r, P1) = z) := by
  cases n with
  | zero => cases h
  | succ n =>
    unfold f_X1_tellDue at h
    split at h
    · exact Ct.of hl (by decide +kernel) wc_X1_tellDue (Nat.le_of_ble_eq_true rfl) (t_X1_tellDue_0 hl (s_X1_tellDue hl _) h rfl)
    all_goals first | (cases h; done) | (rename_i q9 _; exact absurd q9 (by decide)) | (rename_i q9; exact absurd q9 (by decide)) | contradiction
/-! QuakeNet.spreadOn(III)I -/
def b_X10_spreadOn_0 (n : Nat) (rec : Nat → List Value → xH → xO) (a0 : Nat) (a1 : Int32) (a2 : Int32) (a3 : Int32) (P : xH) : xO :=
  (rA P a0 10 1).bind fun v1 =>
  (rA P v1 7 0).bind fun v3 =>
  (kO P a0 10).bind fun _ =>
  (f_X10_beginTrial n 0 [.ref a0, .ref v3] P).bind fun r6 => xU r6 fun P5 =>
  rec 14 [.ref a0, .int a1, .int a2, .int a3, .int 0] P5
def b_X10_spreadOn_14 (n : Nat) (rec : Nat → List Value → xH → xO) (a0 : Nat) (a1 : Int32) (a2 : Int32) (a3 : Int32) (a4 : Int32) (P : xH) : xO :=
  if a3 ≤ a4 then
    (rA P a0 10 2).bind fun v1 =>
    (rA P v1 1 9).bind fun v3 =>
    (aI P v3 a2).bind fun v5 =>
    some (.inl (some (.int v5)), P)
  else
    (rA P a0 10 2).bind fun v7 =>
    (rA P a0 10 1).bind fun v9 =>
    (rA P v9 7 2).bind fun v11 =>
    (kO P v7 1).bind fun _ =>
    (f_X1_step n 0 [.ref v7, .ref v11, .int a1] P).bind fun r14 => xU r14 fun P13 =>
    (rA P13 a0 10 2).bind fun v17 =>
    (kO P13 v17 1).bind fun _ =>
    (f_X1_tellDue n 0 [.ref v17] P13).bind fun r20 => xU r20 fun P19 =>
    rec 14 [.ref a0, .int a1, .int a2, .int a3, .int ((a4 + 1))] P19
def lay_X10_spreadOn : Nat → List Value → Option (xL × List Value)
  | 0, [a0, a1, a2, a3] => some ([some a0, some a1, some a2, some a3, none], [])
  | 14, [a0, a1, a2, a3, a4] => some ([some a0, some a1, some a2, some a3, some a4], [])
  | _, _ => none
def f_X10_spreadOn : Nat → Nat → List Value → xH → xO
  | 0 => fun _ _ _ => none
  | n + 1 => fun pc env P => match pc, env with
    | 0, [.ref a0, .int a1, .int a2, .int a3] => b_X10_spreadOn_0 n (f_X10_spreadOn n) a0 a1 a2 a3 P
    | 14, [.ref a0, .int a1, .int a2, .int a3, .int a4] => b_X10_spreadOn_14 n (f_X10_spreadOn n) a0 a1 a2 a3 a4 P
    | _, _ => none
set_option maxHeartbeats 2000000 in
set_option maxRecDepth 20000 in
theorem t_X10_spreadOn_0 {G : xG} {l : Launch} (hl : l.stackTraces = false) {n : Nat} {rec : Nat → List Value → xH → xO} (hrec : ∀ pc env P z, rec pc env P = some z → ∀ L st, lay_X10_spreadOn pc env = some (L, st) → ∀ Q : xR → xH → Prop, Q z.1 z.2 → Wp G l 11 mX10_spreadOn pc L st P Q) {a0 a1 a2 a3} {P : xH} {z : xR × xH} (h : b_X10_spreadOn_0 n rec a0 a1 a2 a3 P = some z) {Q : xR → xH → Prop} (hQ : Q z.1 z.2) : Wp G l 11 mX10_spreadOn 0 [some (.ref a0), some (.int a1), some (.int a2), some (.int a3), none] [] P Q := by
  unfold b_X10_spreadOn_0 at h
  refine x_aload_nr dX10_spreadOn_0 rfl ?_
  refine x_aload_nr dX10_spreadOn_1 rfl ?_
  obtain ⟨v1, e2, h⟩ := Option.bind_eq_some_iff.mp h
  refine k_rA e2 dX10_spreadOn_2 f_X10_19 ?_
  obtain ⟨v3, e4, h⟩ := Option.bind_eq_some_iff.mp h
  refine k_rA e4 dX10_spreadOn_5 f_X10_29 ?_
  obtain ⟨_, e8, h⟩ := Option.bind_eq_some_iff.mp h
  obtain ⟨fse8, e8⟩ := kO_ok e8
  obtain ⟨r6, e7, h⟩ := Option.bind_eq_some_iff.mp h
  replace h := xU_ok h
  obtain ⟨P5, rfl, h⟩ := h
  refine x_callV (c_X10_beginTrial hl e7) dX10_spreadOn_8 cw_X10_beginTrial wl_X10_306 wi_X10_beginTrial wse_X10_beginTrial rfl e8 (by decide) rfl (by omega) (by decide) rfl (Nat.le_of_ble_eq_true rfl) rfl (fun v9 P9 hq9 => ?_) (fun i9 P9 hq9 => by cases hq9)
  cases hq9
  refine x_iconst 0 dX10_spreadOn_11 (by decide) ?_
  refine x_istore dX10_spreadOn_12 (Nat.le_of_ble_eq_true rfl) ?_
  exact Wp.mask [true, true, true, true, true] (hrec 14 _ _ _ h _ _ rfl _ hQ)
set_option maxHeartbeats 2000000 in
set_option maxRecDepth 20000 in
theorem t_X10_spreadOn_14 {G : xG} {l : Launch} (hl : l.stackTraces = false) {n : Nat} {rec : Nat → List Value → xH → xO} (hrec : ∀ pc env P z, rec pc env P = some z → ∀ L st, lay_X10_spreadOn pc env = some (L, st) → ∀ Q : xR → xH → Prop, Q z.1 z.2 → Wp G l 11 mX10_spreadOn pc L st P Q) {a0 a1 a2 a3 a4} {P : xH} {z : xR × xH} (h : b_X10_spreadOn_14 n rec a0 a1 a2 a3 a4 P = some z) {Q : xR → xH → Prop} (hQ : Q z.1 z.2) : Wp G l 11 mX10_spreadOn 14 [some (.ref a0), some (.int a1), some (.int a2), some (.int a3), some (.int a4)] [] P Q := by
  unfold b_X10_spreadOn_14 at h
  refine x_iload dX10_spreadOn_14 rfl ?_
  refine x_iload_n dX10_spreadOn_16 rfl ?_
  refine x_icmp_ge 48 dX10_spreadOn_17 (by decide) (fun q23 => ?_) (fun q23 => ?_)
  · rw [if_pos q23] at h
    refine x_aload_nr dX10_spreadOn_48 rfl ?_
    obtain ⟨v1, e2, h⟩ := Option.bind_eq_some_iff.mp h
    refine k_rA e2 dX10_spreadOn_49 f_X10_36 ?_
    obtain ⟨v3, e4, h⟩ := Option.bind_eq_some_iff.mp h
    refine k_rA e4 dX10_spreadOn_52 f_X10_181 ?_
    refine x_iload_n dX10_spreadOn_55 rfl ?_
    obtain ⟨v5, e6, h⟩ := Option.bind_eq_some_iff.mp h
    refine k_aI e6 dX10_spreadOn_56 ?_
    cases h
    exact x_iret .int rfl rfl dX10_spreadOn_57 hQ
  · rw [if_neg q23] at h
    refine x_aload_nr dX10_spreadOn_20 rfl ?_
    obtain ⟨v7, e8, h⟩ := Option.bind_eq_some_iff.mp h
    refine k_rA e8 dX10_spreadOn_21 f_X10_36 ?_
    refine x_aload_nr dX10_spreadOn_24 rfl ?_
    obtain ⟨v9, e10, h⟩ := Option.bind_eq_some_iff.mp h
    refine k_rA e10 dX10_spreadOn_25 f_X10_19 ?_
    obtain ⟨v11, e12, h⟩ := Option.bind_eq_some_iff.mp h
    refine k_rA e12 dX10_spreadOn_28 f_X10_96 ?_
    refine x_iload_n dX10_spreadOn_31 rfl ?_
    obtain ⟨_, e16, h⟩ := Option.bind_eq_some_iff.mp h
    obtain ⟨fse16, e16⟩ := kO_ok e16
    obtain ⟨r14, e15, h⟩ := Option.bind_eq_some_iff.mp h
    replace h := xU_ok h
    obtain ⟨P13, rfl, h⟩ := h
    refine x_callV (c_X1_step hl e15) dX10_spreadOn_32 cw_X1_step wl_X10_309 wi_X1_step wse_X1_step rfl e16 (by decide) rfl (by omega) (by decide) rfl (Nat.le_of_ble_eq_true rfl) rfl (fun v9 P9 hq9 => ?_) (fun i9 P9 hq9 => by cases hq9)
    cases hq9
    refine x_aload_nr dX10_spreadOn_35 rfl ?_
    obtain ⟨v17, e18, h⟩ := Option.bind_eq_some_iff.mp h
    refine k_rA e18 dX10_spreadOn_36 f_X10_36 ?_
    obtain ⟨_, e22, h⟩ := Option.bind_eq_some_iff.mp h
    obtain ⟨fse22, e22⟩ := kO_ok e22
    obtain ⟨r20, e21, h⟩ := Option.bind_eq_some_iff.mp h
    replace h := xU_ok h
    obtain ⟨P19, rfl, h⟩ := h
    refine x_callV (c_X1_tellDue hl e21) dX10_spreadOn_39 cw_X1_tellDue wl_X10_313 wi_X1_tellDue wse_X1_tellDue rfl e22 (by decide) rfl (by omega) (by decide) rfl (Nat.le_of_ble_eq_true rfl) rfl (fun v9 P9 hq9 => ?_) (fun i9 P9 hq9 => by cases hq9)
    cases hq9
    refine x_iinc (a4 + 1) dX10_spreadOn_42 rfl (by rfl) ?_
    refine x_goto 14 dX10_spreadOn_45 (by decide) ?_
    exact Wp.mask [true, true, true, true, true] (hrec 14 _ _ _ h _ _ rfl _ hQ)
theorem s_X10_spreadOn {G : xG} {l : Launch} (hl : l.stackTraces = false) : ∀ n pc env P z, f_X10_spreadOn n pc env P = some z → ∀ L st, lay_X10_spreadOn pc env = some (L, st) → ∀ Q : xR → xH → Prop, Q z.1 z.2 → Wp G l 11 mX10_spreadOn pc L st P Q := by
  intro n
  induction n with
  | zero => intro pc env P z h; cases h
  | succ n ih =>
    intro pc env P z h L st hlay Q hQ
    unfold f_X10_spreadOn at h
    split at h
    · cases hlay
      exact t_X10_spreadOn_0 hl ih h hQ
    · cases hlay
      exact t_X10_spreadOn_14 hl ih h hQ
    · cases h
theorem c_X10_spreadOn {G : xG} {l : Launch} (hl : l.stackTraces = false) {n : Nat} {as : List Value} {P : xH} {z : xR × xH} (h : f_X10_spreadOn n 0 as P = some z) : Ct G l 11 mX10_spreadOn as P (fun r P1 => (r, P1) = z) := by
  cases n with
  | zero => cases h
  | succ n =>
    unfold f_X10_spreadOn at h
    split at h
    · exact Ct.of hl (by decide +kernel) wc_X10_spreadOn (Nat.le_of_ble_eq_true rfl) (t_X10_spreadOn_0 hl (s_X10_spreadOn hl _) h rfl)
    all_goals first | (cases h; done) | (rename_i q9 _; exact absurd q9 (by decide)) | (rename_i q9; exact absurd q9 (by decide)) | contradiction
/-! QuakeNet.far(II)I -/
def b_X10_far_0 (n : Nat) (rec : Nat → List Value → xH → xO) (a0 : Nat) (a1 : Int32) (a2 : Int32) (P : xH) : xO :=
  (kO P a0 10).bind fun _ =>
  (f_X10_needWord n 0 [.ref a0, .int a1] P).bind fun r2 => xUt r2 fun P1 =>
  (rA P1 a0 10 1).bind fun v5 =>
  (rA P1 v5 7 3).bind fun v7 =>
  (rI P1 v7 1 2).bind fun v9 =>
  (f_X10_needWithin n 0 [.int ((mMin a2 v9)), .int 0, .int 400] P1).bind fun r12 => xUt r12 fun P11 =>
  rec 34 [.ref a0, .int a1, .int a2, .int ((mMin a2 v9)), .int 0, .int 0] P11
def b_X10_far_34 (n : Nat) (rec : Nat → List Value → xH → xO) (a0 : Nat) (a1 : Int32) (a2 : Int32) (a3 : Int32) (a4 : Int32) (a5 : Int32) (P : xH) : xO :=
  if 4 ≤ a5 then
    some (.inl (some (.int a4)), P)
  else
    if a5 = 0 then
      rec 61 [.ref a0, .int a1, .int a2, .int a3, .int a4, .int a5] P
    else
      (rA P a0 10 1).bind fun v1 =>
      (rA P v1 7 2).bind fun v3 =>
      (rA P v3 8 3).bind fun v5 =>
      (aI P v5 a5).bind fun v7 =>
      if v7 ≤ 0 then
        rec 34 [.ref a0, .int a1, .int a2, .int a3, .int a4, .int ((a5 + 1))] P
      else
        rec 61 [.ref a0, .int a1, .int a2, .int a3, .int a4, .int a5] P
def b_X10_far_61 (n : Nat) (rec : Nat → List Value → xH → xO) (a0 : Nat) (a1 : Int32) (a2 : Int32) (a3 : Int32) (a4 : Int32) (a5 : Int32) (P : xH) : xO :=
  (kO P a0 10).bind fun _ =>
  (f_X10_spreadOn n 0 [.ref a0, .int a5, .int a1, .int a3] P).bind fun r2 => xI r2 fun v4 P1 =>
  rec 34 [.ref a0, .int a1, .int a2, .int a3, .int ((a4 + v4)), .int ((a5 + 1))] P1
def lay_X10_far : Nat → List Value → Option (xL × List Value)
  | 0, [a0, a1, a2] => some ([some a0, some a1, some a2, none, none, none], [])
  | 34, [a0, a1, a2, a3, a4, a5] => some ([some a0, some a1, some a2, some a3, some a4, some a5], [])
  | 61, [a0, a1, a2, a3, a4, a5] => some ([some a0, some a1, some a2, some a3, some a4, some a5], [])
  | _, _ => none
def f_X10_far : Nat → Nat → List Value → xH → xO
  | 0 => fun _ _ _ => none
  | n + 1 => fun pc env P => match pc, env with
    | 0, [.ref a0, .int a1, .int a2] => b_X10_far_0 n (f_X10_far n) a0 a1 a2 P
    | 34, [.ref a0, .int a1, .int a2, .int a3, .int a4, .int a5] => b_X10_far_34 n (f_X10_far n) a0 a1 a2 a3 a4 a5 P
    | 61, [.ref a0, .int a1, .int a2, .int a3, .int a4, .int a5] => b_X10_far_61 n (f_X10_far n) a0 a1 a2 a3 a4 a5 P
    | _, _ => none
set_option maxHeartbeats 2000000 in
set_option maxRecDepth 20000 in
theorem t_X10_far_0 {G : xG} {l : Launch} (hl : l.stackTraces = false) {n : Nat} {rec : Nat → List Value → xH → xO} (hrec : ∀ pc env P z, rec pc env P = some z → ∀ L st, lay_X10_far pc env = some (L, st) → ∀ Q : xR → xH → Prop, Q z.1 z.2 → Wp G l 12 mX10_far pc L st P Q) {a0 a1 a2} {P : xH} {z : xR × xH} (h : b_X10_far_0 n rec a0 a1 a2 P = some z) {Q : xR → xH → Prop} (hQ : Q z.1 z.2) : Wp G l 12 mX10_far 0 [some (.ref a0), some (.int a1), some (.int a2), none, none, none] [] P Q := by
  unfold b_X10_far_0 at h
  refine x_aload_nr dX10_far_0 rfl ?_
  refine x_iload_n dX10_far_1 rfl ?_
  obtain ⟨_, e4, h⟩ := Option.bind_eq_some_iff.mp h
  obtain ⟨fse4, e4⟩ := kO_ok e4
  obtain ⟨r2, e3, h⟩ := Option.bind_eq_some_iff.mp h
  replace h := xUt_ok h
  rcases h with ⟨P1, hr9, h⟩ | ⟨i8, P8, rfl, rfl⟩
  · subst hr9
    refine x_callV (c_X10_needWord hl e3) dX10_far_2 cw_X10_needWord wl_X10_141 wi_X10_needWord wse_X10_needWord rfl e4 (by decide) rfl (by omega) (by decide) rfl (Nat.le_of_ble_eq_true rfl) rfl (fun v9 P9 hq9 => ?_) (fun i9 P9 hq9 => by cases hq9)
    cases hq9
    refine x_iload_n dX10_far_5 rfl ?_
    refine x_aload_nr dX10_far_6 rfl ?_
    obtain ⟨v5, e6, h⟩ := Option.bind_eq_some_iff.mp h
    refine k_rA e6 dX10_far_7 f_X10_19 ?_
    obtain ⟨v7, e8, h⟩ := Option.bind_eq_some_iff.mp h
    refine k_rA e8 dX10_far_10 f_X10_42 ?_
    obtain ⟨v9, e10, h⟩ := Option.bind_eq_some_iff.mp h
    refine k_rI e10 dX10_far_13 f_X10_93 ?_
    refine x_mmin dX10_far_16 wl_X10_295 (Nat.le_of_ble_eq_true rfl) (by omega) ?_
    refine x_istore_n dX10_far_19 (Nat.le_of_ble_eq_true rfl) ?_
    refine x_iload_n dX10_far_20 rfl ?_
    refine x_iconst 0 dX10_far_21 (by decide) ?_
    refine x_sipush 400 dX10_far_22 (by decide) ?_
    obtain ⟨r12, e13, h⟩ := Option.bind_eq_some_iff.mp h
    replace h := xUt_ok h
    rcases h with ⟨P11, hr9, h⟩ | ⟨i8, P8, rfl, rfl⟩
    · subst hr9
      refine x_callS (c_X10_needWithin hl e13) dX10_far_25 cw_X10_needWithin wl_X10_67 ws_X10_needWithin rfl (by omega) (by decide) rfl (Nat.le_of_ble_eq_true rfl) rfl (fun v9 P9 hq9 => ?_) (fun i9 P9 hq9 => by cases hq9)
      cases hq9
      refine x_iconst 0 dX10_far_28 (by decide) ?_
      refine x_istore dX10_far_29 (Nat.le_of_ble_eq_true rfl) ?_
      refine x_iconst 0 dX10_far_31 (by decide) ?_
      refine x_istore dX10_far_32 (Nat.le_of_ble_eq_true rfl) ?_
      exact Wp.mask [true, true, true, true, true, true] (hrec 34 _ _ _ h _ _ rfl _ hQ)
    · exact x_callS (c_X10_needWithin hl e13) dX10_far_25 cw_X10_needWithin wl_X10_67 ws_X10_needWithin rfl (by omega) (by decide) rfl (Nat.le_of_ble_eq_true rfl) rfl (fun v9 P9 hq9 => by cases hq9) (fun i9 P9 hq9 => by cases hq9; exact hQ)
  · exact x_callV (c_X10_needWord hl e3) dX10_far_2 cw_X10_needWord wl_X10_141 wi_X10_needWord wse_X10_needWord rfl e4 (by decide) rfl (by omega) (by decide) rfl (Nat.le_of_ble_eq_true rfl) rfl (fun v9 P9 hq9 => by cases hq9) (fun i9 P9 hq9 => by cases hq9; exact hQ)
set_option maxHeartbeats 2000000 in
set_option maxRecDepth 20000 in
theorem t_X10_far_34 {G : xG} {l : Launch} (hl : l.stackTraces = false) {n : Nat} {rec : Nat → List Value → xH → xO} (hrec : ∀ pc env P z, rec pc env P = some z → ∀ L st, lay_X10_far pc env = some (L, st) → ∀ Q : xR → xH → Prop, Q z.1 z.2 → Wp G l 12 mX10_far pc L st P Q) {a0 a1 a2 a3 a4 a5} {P : xH} {z : xR × xH} (h : b_X10_far_34 n rec a0 a1 a2 a3 a4 a5 P = some z) {Q : xR → xH → Prop} (hQ : Q z.1 z.2) : Wp G l 12 mX10_far 34 [some (.ref a0), some (.int a1), some (.int a2), some (.int a3), some (.int a4), some (.int a5)] [] P Q := by
  unfold b_X10_far_34 at h
  refine x_iload dX10_far_34 rfl ?_
  refine x_iconst 4 dX10_far_36 (by decide) ?_
  refine x_icmp_ge 80 dX10_far_37 (by decide) (fun q11 => ?_) (fun q11 => ?_)
  · rw [if_pos q11] at h
    refine x_iload dX10_far_80 rfl ?_
    cases h
    exact x_iret .int rfl rfl dX10_far_82 hQ
  · rw [if_neg q11] at h
    refine x_iload dX10_far_40 rfl ?_
    refine x_if_eq 61 dX10_far_42 (by decide) (fun q10 => ?_) (fun q10 => ?_)
    · rw [if_pos q10] at h
      exact Wp.mask [true, true, true, true, true, true] (hrec 61 _ _ _ h _ _ rfl _ hQ)
    · rw [if_neg q10] at h
      refine x_aload_nr dX10_far_45 rfl ?_
      obtain ⟨v1, e2, h⟩ := Option.bind_eq_some_iff.mp h
      refine k_rA e2 dX10_far_46 f_X10_19 ?_
      obtain ⟨v3, e4, h⟩ := Option.bind_eq_some_iff.mp h
      refine k_rA e4 dX10_far_49 f_X10_96 ?_
      obtain ⟨v5, e6, h⟩ := Option.bind_eq_some_iff.mp h
      refine k_rA e6 dX10_far_52 f_X10_300 ?_
      refine x_iload dX10_far_55 rfl ?_
      obtain ⟨v7, e8, h⟩ := Option.bind_eq_some_iff.mp h
      refine k_aI e8 dX10_far_57 ?_
      refine x_if_le 74 dX10_far_58 (by decide) (fun q9 => ?_) (fun q9 => ?_)
      · rw [if_pos q9] at h
        refine x_iinc (a5 + 1) dX10_far_74 rfl (by rfl) ?_
        refine x_goto 34 dX10_far_77 (by decide) ?_
        exact Wp.mask [true, true, true, true, true, true] (hrec 34 _ _ _ h _ _ rfl _ hQ)
      · rw [if_neg q9] at h
        exact Wp.mask [true, true, true, true, true, true] (hrec 61 _ _ _ h _ _ rfl _ hQ)
set_option maxHeartbeats 2000000 in
set_option maxRecDepth 20000 in
theorem t_X10_far_61 {G : xG} {l : Launch} (hl : l.stackTraces = false) {n : Nat} {rec : Nat → List Value → xH → xO} (hrec : ∀ pc env P z, rec pc env P = some z → ∀ L st, lay_X10_far pc env = some (L, st) → ∀ Q : xR → xH → Prop, Q z.1 z.2 → Wp G l 12 mX10_far pc L st P Q) {a0 a1 a2 a3 a4 a5} {P : xH} {z : xR × xH} (h : b_X10_far_61 n rec a0 a1 a2 a3 a4 a5 P = some z) {Q : xR → xH → Prop} (hQ : Q z.1 z.2) : Wp G l 12 mX10_far 61 [some (.ref a0), some (.int a1), some (.int a2), some (.int a3), some (.int a4), some (.int a5)] [] P Q := by
  unfold b_X10_far_61 at h
  refine x_iload dX10_far_61 rfl ?_
  refine x_aload_nr dX10_far_63 rfl ?_
  refine x_iload dX10_far_64 rfl ?_
  refine x_iload_n dX10_far_66 rfl ?_
  refine x_iload_n dX10_far_67 rfl ?_
  obtain ⟨_, e5, h⟩ := Option.bind_eq_some_iff.mp h
  obtain ⟨fse5, e5⟩ := kO_ok e5
  obtain ⟨r2, e3, h⟩ := Option.bind_eq_some_iff.mp h
  replace h := xI_ok h
  obtain ⟨v4, P1, rfl, h⟩ := h
  refine x_callV (c_X10_spreadOn hl e3) dX10_far_68 cw_X10_spreadOn wl_X10_303 wi_X10_spreadOn wse_X10_spreadOn rfl e5 (by decide) rfl (by omega) (by decide) rfl (Nat.le_of_ble_eq_true rfl) rfl (fun v9 P9 hq9 => ?_) (fun i9 P9 hq9 => by cases hq9)
  cases hq9
  refine x_iadd dX10_far_71 ?_
  refine x_istore dX10_far_72 (Nat.le_of_ble_eq_true rfl) ?_
  refine x_iinc (a5 + 1) dX10_far_74 rfl (by rfl) ?_
  refine x_goto 34 dX10_far_77 (by decide) ?_
  exact Wp.mask [true, true, true, true, true, true] (hrec 34 _ _ _ h _ _ rfl _ hQ)
theorem s_X10_far {G : xG} {l : Launch} (hl : l.stackTraces = false) : ∀ n pc env P z, f_X10_far n pc env P = some z → ∀ L st, lay_X10_far pc env = some (L, st) → ∀ Q : xR → xH → Prop, Q z.1 z.2 → Wp G l 12 mX10_far pc L st P Q := by
  intro n
  induction n with
  | zero => intro pc env P z h; cases h
  | succ n ih =>
    intro pc env P z h L st hlay Q hQ
    unfold f_X10_far at h
    split at h
    · cases hlay
      exact t_X10_far_0 hl ih h hQ
    · cases hlay
      exact t_X10_far_34 hl ih h hQ
    · cases hlay
      exact t_X10_far_61 hl ih h hQ
    · cases h
theorem c_X10_far {G : xG} {l : Launch} (hl : l.stackTraces = false) {n : Nat} {as : List Value} {P : xH} {z : xR × xH} (h : f_X10_far n 0 as P = some z) : Ct G l 12 mX10_far as P (fun r P1 => (r, P1) = z) := by
  cases n with
  | zero => cases h
  | succ n =>
    unfold f_X10_far at h
    split at h
    · exact Ct.of hl (by decide +kernel) wc_X10_far (Nat.le_of_ble_eq_true rfl) (t_X10_far_0 hl (s_X10_far hl _) h rfl)
    all_goals first | (cases h; done) | (rename_i q9 _; exact absurd q9 (by decide)) | (rename_i q9; exact absurd q9 (by decide)) | contradiction
/-! QuakeNet.would(I)I -/
def b_X10_would_0 (n : Nat) (rec : Nat → List Value → xH → xO) (a0 : Nat) (a1 : Int32) (P : xH) : xO :=
  if a1 < 0 then
    (rA P a0 10 0).bind fun v1 =>
    (wV P v1 3 2 (.int 0)).bind fun P3 =>
    rec 26 [.ref a0, .int a1] P3
  else
    (rA P a0 10 1).bind fun v5 =>
    (rA P v5 7 1).bind fun v7 =>
    (rI P v7 9 3).bind fun v9 =>
    if a1 < v9 then
      rec 26 [.ref a0, .int a1] P
    else
      (rA P a0 10 0).bind fun v11 =>
      (wV P v11 3 2 (.int 0)).bind fun P13 =>
      rec 26 [.ref a0, .int a1] P13
def b_X10_would_26 (n : Nat) (rec : Nat → List Value → xH → xO) (a0 : Nat) (a1 : Int32) (P : xH) : xO :=
  (kO P a0 10).bind fun _ =>
  (f_X10_needWord n 0 [.ref a0, .int a1] P).bind fun r2 => xUt r2 fun P1 =>
  (rA P1 a0 10 0).bind fun v5 =>
  (kO P1 v5 3).bind fun _ =>
  (f_X3_read n 0 [.ref v5] P1).bind fun r8 => xI r8 fun v10 P7 =>
  (f_X10_needGood n 0 [.int v10] P7).bind fun r13 => xUt r13 fun P12 =>
  (rA P12 a0 10 0).bind fun v15 =>
  (rA P12 v15 3 0).bind fun v17 =>
  (kO P12 a0 10).bind fun _ =>
  (f_X10_beginTrial n 0 [.ref a0, .ref v17] P12).bind fun r20 => xU r20 fun P19 =>
  rec 54 [.ref a0, .int a1, .int 0] P19
def b_X10_would_54 (n : Nat) (rec : Nat → List Value → xH → xO) (a0 : Nat) (a1 : Int32) (a2 : Int32) (P : xH) : xO :=
  (rA P a0 10 1).bind fun v1 =>
  (rA P v1 7 3).bind fun v3 =>
  (rI P v3 1 2).bind fun v5 =>
  if v5 ≤ a2 then
    (rA P a0 10 2).bind fun v7 =>
    (rA P v7 1 10).bind fun v9 =>
    (aI P v9 a1).bind fun v11 =>
    some (.inl (some (.int v11)), P)
  else
    (rA P a0 10 2).bind fun v13 =>
    (rA P v13 1 10).bind fun v15 =>
    (aI P v15 a1).bind fun v17 =>
    if ¬ v17 = ((-1)) then
      (rA P a0 10 2).bind fun v19 =>
      (rA P v19 1 10).bind fun v21 =>
      (aI P v21 a1).bind fun v23 =>
      some (.inl (some (.int v23)), P)
    else
      (rA P a0 10 2).bind fun v25 =>
      (rA P a0 10 1).bind fun v27 =>
      (rA P v27 7 2).bind fun v29 =>
      (kO P v25 1).bind fun _ =>
      (f_X1_step n 0 [.ref v25, .ref v29, .int 0] P).bind fun r32 => xU r32 fun P31 =>
      (rA P31 a0 10 2).bind fun v35 =>
      (kO P31 v35 1).bind fun _ =>
      (f_X1_tellDue n 0 [.ref v35] P31).bind fun r38 => xU r38 fun P37 =>
      rec 54 [.ref a0, .int a1, .int ((a2 + 1))] P37
def lay_X10_would : Nat → List Value → Option (xL × List Value)
  | 0, [a0, a1] => some ([some a0, some a1, none], [])
  | 26, [a0, a1] => some ([some a0, some a1, none], [])
  | 54, [a0, a1, a2] => some ([some a0, some a1, some a2], [])
  | _, _ => none
def f_X10_would : Nat → Nat → List Value → xH → xO
  | 0 => fun _ _ _ => none
  | n + 1 => fun pc env P => match pc, env with
    | 0, [.ref a0, .int a1] => b_X10_would_0 n (f_X10_would n) a0 a1 P
    | 26, [.ref a0, .int a1] => b_X10_would_26 n (f_X10_would n) a0 a1 P
    | 54, [.ref a0, .int a1, .int a2] => b_X10_would_54 n (f_X10_would n) a0 a1 a2 P
    | _, _ => none
set_option maxHeartbeats 2000000 in
set_option maxRecDepth 20000 in
theorem t_X10_would_0 {G : xG} {l : Launch} (hl : l.stackTraces = false) {n : Nat} {rec : Nat → List Value → xH → xO} (hrec : ∀ pc env P z, rec pc env P = some z → ∀ L st, lay_X10_would pc env = some (L, st) → ∀ Q : xR → xH → Prop, Q z.1 z.2 → Wp G l 43 mX10_would pc L st P Q) {a0 a1} {P : xH} {z : xR × xH} (h : b_X10_would_0 n rec a0 a1 P = some z) {Q : xR → xH → Prop} (hQ : Q z.1 z.2) : Wp G l 43 mX10_would 0 [some (.ref a0), some (.int a1), none] [] P Q := by
  unfold b_X10_would_0 at h
  refine x_iload_n dX10_would_0 rfl ?_
  refine x_if_lt 18 dX10_would_1 (by decide) (fun q16 => ?_) (fun q16 => ?_)
  · rw [if_pos q16] at h
    refine x_aload_nr dX10_would_18 rfl ?_
    obtain ⟨v1, e2, h⟩ := Option.bind_eq_some_iff.mp h
    refine k_rA e2 dX10_would_19 f_X10_10 ?_
    refine x_iconst 0 dX10_would_22 (by decide) ?_
    obtain ⟨P3, e4, h⟩ := Option.bind_eq_some_iff.mp h
    refine k_wI e4 dX10_would_23 f_X10_60 (Or.inl (by decide)) rfl ?_
    exact Wp.mask [true, true, false] (hrec 26 _ _ _ h _ _ rfl _ hQ)
  · rw [if_neg q16] at h
    refine x_iload_n dX10_would_4 rfl ?_
    refine x_aload_nr dX10_would_5 rfl ?_
    obtain ⟨v5, e6, h⟩ := Option.bind_eq_some_iff.mp h
    refine k_rA e6 dX10_would_6 f_X10_19 ?_
    obtain ⟨v7, e8, h⟩ := Option.bind_eq_some_iff.mp h
    refine k_rA e8 dX10_would_9 f_X10_25 ?_
    obtain ⟨v9, e10, h⟩ := Option.bind_eq_some_iff.mp h
    refine k_rI e10 dX10_would_12 f_X10_126 ?_
    refine x_icmp_lt 26 dX10_would_15 (by decide) (fun q15 => ?_) (fun q15 => ?_)
    · rw [if_pos q15] at h
      exact Wp.mask [true, true, false] (hrec 26 _ _ _ h _ _ rfl _ hQ)
    · rw [if_neg q15] at h
      refine x_aload_nr dX10_would_18 rfl ?_
      obtain ⟨v11, e12, h⟩ := Option.bind_eq_some_iff.mp h
      refine k_rA e12 dX10_would_19 f_X10_10 ?_
      refine x_iconst 0 dX10_would_22 (by decide) ?_
      obtain ⟨P13, e14, h⟩ := Option.bind_eq_some_iff.mp h
      refine k_wI e14 dX10_would_23 f_X10_60 (Or.inl (by decide)) rfl ?_
      exact Wp.mask [true, true, false] (hrec 26 _ _ _ h _ _ rfl _ hQ)
set_option maxHeartbeats 2000000 in
set_option maxRecDepth 20000 in
theorem t_X10_would_26 {G : xG} {l : Launch} (hl : l.stackTraces = false) {n : Nat} {rec : Nat → List Value → xH → xO} (hrec : ∀ pc env P z, rec pc env P = some z → ∀ L st, lay_X10_would pc env = some (L, st) → ∀ Q : xR → xH → Prop, Q z.1 z.2 → Wp G l 43 mX10_would pc L st P Q) {a0 a1} {P : xH} {z : xR × xH} (h : b_X10_would_26 n rec a0 a1 P = some z) {Q : xR → xH → Prop} (hQ : Q z.1 z.2) : Wp G l 43 mX10_would 26 [some (.ref a0), some (.int a1), none] [] P Q := by
  unfold b_X10_would_26 at h
  refine x_aload_nr dX10_would_26 rfl ?_
  refine x_iload_n dX10_would_27 rfl ?_
  obtain ⟨_, e4, h⟩ := Option.bind_eq_some_iff.mp h
  obtain ⟨fse4, e4⟩ := kO_ok e4
  obtain ⟨r2, e3, h⟩ := Option.bind_eq_some_iff.mp h
  replace h := xUt_ok h
  rcases h with ⟨P1, hr9, h⟩ | ⟨i8, P8, rfl, rfl⟩
  · subst hr9
    refine x_callV (c_X10_needWord hl e3) dX10_would_28 cw_X10_needWord wl_X10_141 wi_X10_needWord wse_X10_needWord rfl e4 (by decide) rfl (by omega) (by decide) rfl (Nat.le_of_ble_eq_true rfl) rfl (fun v9 P9 hq9 => ?_) (fun i9 P9 hq9 => by cases hq9)
    cases hq9
    refine x_aload_nr dX10_would_31 rfl ?_
    obtain ⟨v5, e6, h⟩ := Option.bind_eq_some_iff.mp h
    refine k_rA e6 dX10_would_32 f_X10_10 ?_
    obtain ⟨_, e11, h⟩ := Option.bind_eq_some_iff.mp h
    obtain ⟨fse11, e11⟩ := kO_ok e11
    obtain ⟨r8, e9, h⟩ := Option.bind_eq_some_iff.mp h
    replace h := xI_ok h
    obtain ⟨v10, P7, rfl, h⟩ := h
    refine x_callV (c_X3_read hl e9) dX10_would_35 cw_X3_read wl_X10_103 wi_X3_read wse_X3_read rfl e11 (by decide) rfl (by omega) (by decide) rfl (Nat.le_of_ble_eq_true rfl) rfl (fun v9 P9 hq9 => ?_) (fun i9 P9 hq9 => by cases hq9)
    cases hq9
    obtain ⟨r13, e14, h⟩ := Option.bind_eq_some_iff.mp h
    replace h := xUt_ok h
    rcases h with ⟨P12, hr9, h⟩ | ⟨i8, P8, rfl, rfl⟩
    · subst hr9
      refine x_callS (c_X10_needGood hl e14) dX10_would_38 cw_X10_needGood wl_X10_107 ws_X10_needGood rfl (by omega) (by decide) rfl (Nat.le_of_ble_eq_true rfl) rfl (fun v9 P9 hq9 => ?_) (fun i9 P9 hq9 => by cases hq9)
      cases hq9
      refine x_aload_nr dX10_would_41 rfl ?_
      refine x_aload_nr dX10_would_42 rfl ?_
      obtain ⟨v15, e16, h⟩ := Option.bind_eq_some_iff.mp h
      refine k_rA e16 dX10_would_43 f_X10_10 ?_
      obtain ⟨v17, e18, h⟩ := Option.bind_eq_some_iff.mp h
      refine k_rA e18 dX10_would_46 f_X10_111 ?_
      obtain ⟨_, e22, h⟩ := Option.bind_eq_some_iff.mp h
      obtain ⟨fse22, e22⟩ := kO_ok e22
      obtain ⟨r20, e21, h⟩ := Option.bind_eq_some_iff.mp h
      replace h := xU_ok h
      obtain ⟨P19, rfl, h⟩ := h
      refine x_callV (c_X10_beginTrial hl e21) dX10_would_49 cw_X10_beginTrial wl_X10_306 wi_X10_beginTrial wse_X10_beginTrial rfl e22 (by decide) rfl (by omega) (by decide) rfl (Nat.le_of_ble_eq_true rfl) rfl (fun v9 P9 hq9 => ?_) (fun i9 P9 hq9 => by cases hq9)
      cases hq9
      refine x_iconst 0 dX10_would_52 (by decide) ?_
      refine x_istore_n dX10_would_53 (Nat.le_of_ble_eq_true rfl) ?_
      exact Wp.mask [true, true, true] (hrec 54 _ _ _ h _ _ rfl _ hQ)
    · exact x_callS (c_X10_needGood hl e14) dX10_would_38 cw_X10_needGood wl_X10_107 ws_X10_needGood rfl (by omega) (by decide) rfl (Nat.le_of_ble_eq_true rfl) rfl (fun v9 P9 hq9 => by cases hq9) (fun i9 P9 hq9 => by cases hq9; exact hQ)
  · exact x_callV (c_X10_needWord hl e3) dX10_would_28 cw_X10_needWord wl_X10_141 wi_X10_needWord wse_X10_needWord rfl e4 (by decide) rfl (by omega) (by decide) rfl (Nat.le_of_ble_eq_true rfl) rfl (fun v9 P9 hq9 => by cases hq9) (fun i9 P9 hq9 => by cases hq9; exact hQ)
set_option maxHeartbeats 2000000 in
set_option maxRecDepth 20000 in
theorem t_X10_would_54 {G : xG} {l : Launch} (hl : l.stackTraces = false) {n : Nat} {rec : Nat → List Value → xH → xO} (hrec : ∀ pc env P z, rec pc env P = some z → ∀ L st, lay_X10_would pc env = some (L, st) → ∀ Q : xR → xH → Prop, Q z.1 z.2 → Wp G l 43 mX10_would pc L st P Q) {a0 a1 a2} {P : xH} {z : xR × xH} (h : b_X10_would_54 n rec a0 a1 a2 P = some z) {Q : xR → xH → Prop} (hQ : Q z.1 z.2) : Wp G l 43 mX10_would 54 [some (.ref a0), some (.int a1), some (.int a2)] [] P Q := by
  unfold b_X10_would_54 at h
  refine x_iload_n dX10_would_54 rfl ?_
  refine x_aload_nr dX10_would_55 rfl ?_
  obtain ⟨v1, e2, h⟩ := Option.bind_eq_some_iff.mp h
  refine k_rA e2 dX10_would_56 f_X10_19 ?_
  obtain ⟨v3, e4, h⟩ := Option.bind_eq_some_iff.mp h
  refine k_rA e4 dX10_would_59 f_X10_42 ?_
  obtain ⟨v5, e6, h⟩ := Option.bind_eq_some_iff.mp h
  refine k_rI e6 dX10_would_62 f_X10_93 ?_
  refine x_icmp_ge 109 dX10_would_65 (by decide) (fun q42 => ?_) (fun q42 => ?_)
  · rw [if_pos q42] at h
    refine x_aload_nr dX10_would_109 rfl ?_
    obtain ⟨v7, e8, h⟩ := Option.bind_eq_some_iff.mp h
    refine k_rA e8 dX10_would_110 f_X10_36 ?_
    obtain ⟨v9, e10, h⟩ := Option.bind_eq_some_iff.mp h
    refine k_rA e10 dX10_would_113 f_X10_188 ?_
    refine x_iload_n dX10_would_116 rfl ?_
    obtain ⟨v11, e12, h⟩ := Option.bind_eq_some_iff.mp h
    refine k_aI e12 dX10_would_117 ?_
    cases h
    exact x_iret .int rfl rfl dX10_would_118 hQ
  · rw [if_neg q42] at h
    refine x_aload_nr dX10_would_68 rfl ?_
    obtain ⟨v13, e14, h⟩ := Option.bind_eq_some_iff.mp h
    refine k_rA e14 dX10_would_69 f_X10_36 ?_
    obtain ⟨v15, e16, h⟩ := Option.bind_eq_some_iff.mp h
    refine k_rA e16 dX10_would_72 f_X10_188 ?_
    refine x_iload_n dX10_would_75 rfl ?_
    obtain ⟨v17, e18, h⟩ := Option.bind_eq_some_iff.mp h
    refine k_aI e18 dX10_would_76 ?_
    refine x_iconst (-1) dX10_would_77 (by decide) ?_
    refine x_icmp_ne 109 dX10_would_78 (by decide) (fun q41 => ?_) (fun q41 => ?_)
    · rw [if_pos q41] at h
      refine x_aload_nr dX10_would_109 rfl ?_
      obtain ⟨v19, e20, h⟩ := Option.bind_eq_some_iff.mp h
      refine k_rA e20 dX10_would_110 f_X10_36 ?_
      obtain ⟨v21, e22, h⟩ := Option.bind_eq_some_iff.mp h
      refine k_rA e22 dX10_would_113 f_X10_188 ?_
      refine x_iload_n dX10_would_116 rfl ?_
      obtain ⟨v23, e24, h⟩ := Option.bind_eq_some_iff.mp h
      refine k_aI e24 dX10_would_117 ?_
      cases h
      exact x_iret .int rfl rfl dX10_would_118 hQ
    · rw [if_neg (fun z9 => z9 q41)] at h
      refine x_aload_nr dX10_would_81 rfl ?_
      obtain ⟨v25, e26, h⟩ := Option.bind_eq_some_iff.mp h
      refine k_rA e26 dX10_would_82 f_X10_36 ?_
      refine x_aload_nr dX10_would_85 rfl ?_
      obtain ⟨v27, e28, h⟩ := Option.bind_eq_some_iff.mp h
      refine k_rA e28 dX10_would_86 f_X10_19 ?_
      obtain ⟨v29, e30, h⟩ := Option.bind_eq_some_iff.mp h
      refine k_rA e30 dX10_would_89 f_X10_96 ?_
      refine x_iconst 0 dX10_would_92 (by decide) ?_
      obtain ⟨_, e34, h⟩ := Option.bind_eq_some_iff.mp h
      obtain ⟨fse34, e34⟩ := kO_ok e34
      obtain ⟨r32, e33, h⟩ := Option.bind_eq_some_iff.mp h
      replace h := xU_ok h
      obtain ⟨P31, rfl, h⟩ := h
      refine x_callV (c_X1_step hl e33) dX10_would_93 cw_X1_step wl_X10_309 wi_X1_step wse_X1_step rfl e34 (by decide) rfl (by omega) (by decide) rfl (Nat.le_of_ble_eq_true rfl) rfl (fun v9 P9 hq9 => ?_) (fun i9 P9 hq9 => by cases hq9)
      cases hq9
      refine x_aload_nr dX10_would_96 rfl ?_
      obtain ⟨v35, e36, h⟩ := Option.bind_eq_some_iff.mp h
      refine k_rA e36 dX10_would_97 f_X10_36 ?_
      obtain ⟨_, e40, h⟩ := Option.bind_eq_some_iff.mp h
      obtain ⟨fse40, e40⟩ := kO_ok e40
      obtain ⟨r38, e39, h⟩ := Option.bind_eq_some_iff.mp h
      replace h := xU_ok h
      obtain ⟨P37, rfl, h⟩ := h
      refine x_callV (c_X1_tellDue hl e39) dX10_would_100 cw_X1_tellDue wl_X10_313 wi_X1_tellDue wse_X1_tellDue rfl e40 (by decide) rfl (by omega) (by decide) rfl (Nat.le_of_ble_eq_true rfl) rfl (fun v9 P9 hq9 => ?_) (fun i9 P9 hq9 => by cases hq9)
      cases hq9
      refine x_iinc (a2 + 1) dX10_would_103 rfl (by rfl) ?_
      refine x_goto 54 dX10_would_106 (by decide) ?_
      exact Wp.mask [true, true, true] (hrec 54 _ _ _ h _ _ rfl _ hQ)
theorem s_X10_would {G : xG} {l : Launch} (hl : l.stackTraces = false) : ∀ n pc env P z, f_X10_would n pc env P = some z → ∀ L st, lay_X10_would pc env = some (L, st) → ∀ Q : xR → xH → Prop, Q z.1 z.2 → Wp G l 43 mX10_would pc L st P Q := by
  intro n
  induction n with
  | zero => intro pc env P z h; cases h
  | succ n ih =>
    intro pc env P z h L st hlay Q hQ
    unfold f_X10_would at h
    split at h
    · cases hlay
      exact t_X10_would_0 hl ih h hQ
    · cases hlay
      exact t_X10_would_26 hl ih h hQ
    · cases hlay
      exact t_X10_would_54 hl ih h hQ
    · cases h
theorem c_X10_would {G : xG} {l : Launch} (hl : l.stackTraces = false) {n : Nat} {as : List Value} {P : xH} {z : xR × xH} (h : f_X10_would n 0 as P = some z) : Ct G l 43 mX10_would as P (fun r P1 => (r, P1) = z) := by
  cases n with
  | zero => cases h
  | succ n =>
    unfold f_X10_would at h
    split at h
    · exact Ct.of hl (by decide +kernel) wc_X10_would (Nat.le_of_ble_eq_true rfl) (t_X10_would_0 hl (s_X10_would hl _) h rfl)
    all_goals first | (cases h; done) | (rename_i q9 _; exact absurd q9 (by decide)) | (rename_i q9; exact absurd q9 (by decide)) | contradiction
/-! QuakeNet.tear(II)I -/
def b_X10_tear_0 (n : Nat) (rec : Nat → List Value → xH → xO) (a0 : Nat) (a1 : Int32) (a2 : Int32) (P : xH) : xO :=
  (rA P a0 10 1).bind fun v1 =>
  (rA P v1 7 5).bind fun v3 =>
  (rI P v3 4 2).bind fun v5 =>
  (f_X10_needWhat n 0 [.int a1, .int v5] P).bind fun r8 => xUt r8 fun P7 =>
  (rA P7 a0 10 1).bind fun v10 =>
  (rA P7 v10 7 5).bind fun v12 =>
  (rA P7 v12 4 1).bind fun v14 =>
  (aI P7 v14 a1).bind fun v16 =>
  (sI P7 v14 a1 ((v16 ^^^ a2))).bind fun P18 =>
  (rA P18 a0 10 1).bind fun v20 =>
  (rA P18 v20 7 5).bind fun v22 =>
  (rA P18 v22 4 1).bind fun v24 =>
  (aI P18 v24 a1).bind fun v26 =>
  some (.inl (some (.int v26)), P18)
def lay_X10_tear : Nat → List Value → Option (xL × List Value)
  | 0, [a0, a1, a2] => some ([some a0, some a1, some a2], [])
  | _, _ => none
def f_X10_tear : Nat → Nat → List Value → xH → xO
  | 0 => fun _ _ _ => none
  | n + 1 => fun pc env P => match pc, env with
    | 0, [.ref a0, .int a1, .int a2] => b_X10_tear_0 n (f_X10_tear n) a0 a1 a2 P
    | _, _ => none
set_option maxHeartbeats 2000000 in
set_option maxRecDepth 20000 in
theorem t_X10_tear_0 {G : xG} {l : Launch} (hl : l.stackTraces = false) {n : Nat} {rec : Nat → List Value → xH → xO} (hrec : ∀ pc env P z, rec pc env P = some z → ∀ L st, lay_X10_tear pc env = some (L, st) → ∀ Q : xR → xH → Prop, Q z.1 z.2 → Wp G l 9 mX10_tear pc L st P Q) {a0 a1 a2} {P : xH} {z : xR × xH} (h : b_X10_tear_0 n rec a0 a1 a2 P = some z) {Q : xR → xH → Prop} (hQ : Q z.1 z.2) : Wp G l 9 mX10_tear 0 [some (.ref a0), some (.int a1), some (.int a2)] [] P Q := by
  unfold b_X10_tear_0 at h
  refine x_iload_n dX10_tear_0 rfl ?_
  refine x_aload_nr dX10_tear_1 rfl ?_
  obtain ⟨v1, e2, h⟩ := Option.bind_eq_some_iff.mp h
  refine k_rA e2 dX10_tear_2 f_X10_19 ?_
  obtain ⟨v3, e4, h⟩ := Option.bind_eq_some_iff.mp h
  refine k_rA e4 dX10_tear_5 f_X10_316 ?_
  obtain ⟨v5, e6, h⟩ := Option.bind_eq_some_iff.mp h
  refine k_rI e6 dX10_tear_8 f_X10_320 ?_
  obtain ⟨r8, e9, h⟩ := Option.bind_eq_some_iff.mp h
  replace h := xUt_ok h
  rcases h with ⟨P7, hr9, h⟩ | ⟨i8, P8, rfl, rfl⟩
  · subst hr9
    refine x_callS (c_X10_needWhat hl e9) dX10_tear_11 cw_X10_needWhat wl_X10_154 ws_X10_needWhat rfl (by omega) (by decide) rfl (Nat.le_of_ble_eq_true rfl) rfl (fun v9 P9 hq9 => ?_) (fun i9 P9 hq9 => by cases hq9)
    cases hq9
    refine x_aload_nr dX10_tear_14 rfl ?_
    obtain ⟨v10, e11, h⟩ := Option.bind_eq_some_iff.mp h
    refine k_rA e11 dX10_tear_15 f_X10_19 ?_
    obtain ⟨v12, e13, h⟩ := Option.bind_eq_some_iff.mp h
    refine k_rA e13 dX10_tear_18 f_X10_316 ?_
    obtain ⟨v14, e15, h⟩ := Option.bind_eq_some_iff.mp h
    refine k_rA e15 dX10_tear_21 f_X10_323 ?_
    refine x_iload_n dX10_tear_24 rfl ?_
    refine x_dup2 dX10_tear_25 rfl rfl ?_
    obtain ⟨v16, e17, h⟩ := Option.bind_eq_some_iff.mp h
    refine k_aI e17 dX10_tear_26 ?_
    refine x_iload_n dX10_tear_27 rfl ?_
    refine x_ixor dX10_tear_28 ?_
    obtain ⟨P18, e19, h⟩ := Option.bind_eq_some_iff.mp h
    refine k_sI e19 dX10_tear_29 ?_
    refine x_aload_nr dX10_tear_30 rfl ?_
    obtain ⟨v20, e21, h⟩ := Option.bind_eq_some_iff.mp h
    refine k_rA e21 dX10_tear_31 f_X10_19 ?_
    obtain ⟨v22, e23, h⟩ := Option.bind_eq_some_iff.mp h
    refine k_rA e23 dX10_tear_34 f_X10_316 ?_
    obtain ⟨v24, e25, h⟩ := Option.bind_eq_some_iff.mp h
    refine k_rA e25 dX10_tear_37 f_X10_323 ?_
    refine x_iload_n dX10_tear_40 rfl ?_
    obtain ⟨v26, e27, h⟩ := Option.bind_eq_some_iff.mp h
    refine k_aI e27 dX10_tear_41 ?_
    cases h
    exact x_iret .int rfl rfl dX10_tear_42 hQ
  · exact x_callS (c_X10_needWhat hl e9) dX10_tear_11 cw_X10_needWhat wl_X10_154 ws_X10_needWhat rfl (by omega) (by decide) rfl (Nat.le_of_ble_eq_true rfl) rfl (fun v9 P9 hq9 => by cases hq9) (fun i9 P9 hq9 => by cases hq9; exact hQ)
theorem s_X10_tear {G : xG} {l : Launch} (hl : l.stackTraces = false) : ∀ n pc env P z, f_X10_tear n pc env P = some z → ∀ L st, lay_X10_tear pc env = some (L, st) → ∀ Q : xR → xH → Prop, Q z.1 z.2 → Wp G l 9 mX10_tear pc L st P Q := by
  intro n
  induction n with
  | zero => intro pc env P z h; cases h
  | succ n ih =>
    intro pc env P z h L st hlay Q hQ
    unfold f_X10_tear at h
    split at h
    · cases hlay
      exact t_X10_tear_0 hl ih h hQ
    · cases h
theorem c_X10_tear {G : xG} {l : Launch} (hl : l.stackTraces = false) {n : Nat} {as : List Value} {P : xH} {z : xR × xH} (h : f_X10_tear n 0 as P = some z) : Ct G l 9 mX10_tear as P (fun r P1 => (r, P1) = z) := by
  cases n with
  | zero => cases h
  | succ n =>
    unfold f_X10_tear at h
    split at h
    · exact Ct.of hl (by decide +kernel) wc_X10_tear (Nat.le_of_ble_eq_true rfl) (t_X10_tear_0 hl (s_X10_tear hl _) h rfl)
    all_goals first | (cases h; done) | (rename_i q9 _; exact absurd q9 (by decide)) | (rename_i q9; exact absurd q9 (by decide)) | contradiction
/-! QuakeNetModel.thrown()I -/
def b_X11_thrown_0 (n : Nat) (rec : Nat → List Value → xH → xO) (a0 : Nat) (P : xH) : xO :=
  (rI P a0 11 0).bind fun v1 =>
  some (.inl (some (.int v1)), P)
def lay_X11_thrown : Nat → List Value → Option (xL × List Value)
  | 0, [a0] => some ([some a0], [])
  | _, _ => none
def f_X11_thrown : Nat → Nat → List Value → xH → xO
  | 0 => fun _ _ _ => none
  | n + 1 => fun pc env P => match pc, env with
    | 0, [.ref a0] => b_X11_thrown_0 n (f_X11_thrown n) a0 P
    | _, _ => none
set_option maxHeartbeats 2000000 in
set_option maxRecDepth 20000 in
theorem t_X11_thrown_0 {G : xG} {l : Launch} (hl : l.stackTraces = false) {n : Nat} {rec : Nat → List Value → xH → xO} (hrec : ∀ pc env P z, rec pc env P = some z → ∀ L st, lay_X11_thrown pc env = some (L, st) → ∀ Q : xR → xH → Prop, Q z.1 z.2 → Wp G l 3 mX11_thrown pc L st P Q) {a0} {P : xH} {z : xR × xH} (h : b_X11_thrown_0 n rec a0 P = some z) {Q : xR → xH → Prop} (hQ : Q z.1 z.2) : Wp G l 3 mX11_thrown 0 [some (.ref a0)] [] P Q := by
  unfold b_X11_thrown_0 at h
  refine x_aload_nr dX11_thrown_0 rfl ?_
  obtain ⟨v1, e2, h⟩ := Option.bind_eq_some_iff.mp h
  refine k_rI e2 dX11_thrown_1 f_X11_3 ?_
  cases h
  exact x_iret .int rfl rfl dX11_thrown_4 hQ
theorem s_X11_thrown {G : xG} {l : Launch} (hl : l.stackTraces = false) : ∀ n pc env P z, f_X11_thrown n pc env P = some z → ∀ L st, lay_X11_thrown pc env = some (L, st) → ∀ Q : xR → xH → Prop, Q z.1 z.2 → Wp G l 3 mX11_thrown pc L st P Q := by
  intro n
  induction n with
  | zero => intro pc env P z h; cases h
  | succ n ih =>
    intro pc env P z h L st hlay Q hQ
    unfold f_X11_thrown at h
    split at h
    · cases hlay
      exact t_X11_thrown_0 hl ih h hQ
    · cases h
theorem c_X11_thrown {G : xG} {l : Launch} (hl : l.stackTraces = false) {n : Nat} {as : List Value} {P : xH} {z : xR × xH} (h : f_X11_thrown n 0 as P = some z) : Ct G l 3 mX11_thrown as P (fun r P1 => (r, P1) = z) := by
  cases n with
  | zero => cases h
  | succ n =>
    unfold f_X11_thrown at h
    split at h
    · exact Ct.of hl (by decide +kernel) wc_X11_thrown (Nat.le_of_ble_eq_true rfl) (t_X11_thrown_0 hl (s_X11_thrown hl _) h rfl)
    all_goals first | (cases h; done) | (rename_i q9 _; exact absurd q9 (by decide)) | (rename_i q9; exact absurd q9 (by decide)) | contradiction
/-! QuakeNetModel.<init>()V -/
def b_X11_init_0 (n : Nat) (rec : Nat → List Value → xH → xO) (a0 : Nat) (P : xH) : xO :=
  (nI' P 2301).bind fun P1 =>
  (wV P1 a0 11 1 (.ref P.1)).bind fun P3 =>
  (nI' P3 2301).bind fun P5 =>
  (wV P5 a0 11 2 (.ref P3.1)).bind fun P7 =>
  (nI' P7 5921).bind fun P9 =>
  (wV P9 a0 11 3 (.ref P7.1)).bind fun P11 =>
  (nI' P11 7381).bind fun P13 =>
  (wV P13 a0 11 4 (.ref P11.1)).bind fun P15 =>
  (nB' P15 400).bind fun P17 =>
  (wV P17 a0 11 8 (.ref P15.1)).bind fun P19 =>
  (wV P19 a0 11 14 (.int ((-1)))).bind fun P21 =>
  (nI' P21 5).bind fun P23 =>
  (wV P23 a0 11 15 (.ref P21.1)).bind fun P25 =>
  (nZ' P25 7).bind fun P27 =>
  (wV P27 a0 11 17 (.ref P25.1)).bind fun P29 =>
  (nI' P29 5).bind fun P31 =>
  (wV P31 a0 11 18 (.ref P29.1)).bind fun P33 =>
  (nZ' P33 400).bind fun P35 =>
  (wV P35 a0 11 19 (.ref P33.1)).bind fun P37 =>
  (nZ' P37 60).bind fun P39 =>
  (wV P39 a0 11 20 (.ref P37.1)).bind fun P41 =>
  (nI' P41 30).bind fun P43 =>
  (wV P43 a0 11 21 (.ref P41.1)).bind fun P45 =>
  (nI' P45 7).bind fun P47 =>
  (wV P47 a0 11 23 (.ref P45.1)).bind fun P49 =>
  (nI' P49 7).bind fun P51 =>
  (wV P51 a0 11 24 (.ref P49.1)).bind fun P53 =>
  (nI' P53 4).bind fun P55 =>
  (wV P55 a0 11 27 (.ref P53.1)).bind fun P57 =>
  (nI' P57 4).bind fun P59 =>
  (wV P59 a0 11 28 (.ref P57.1)).bind fun P61 =>
  (rA P61 a0 11 3).bind fun v63 =>
  (sI P61 v63 6 1).bind fun P65 =>
  (rA P65 a0 11 3).bind fun v67 =>
  (sI P65 v67 7 10).bind fun P69 =>
  some (.inl none, P69)
def lay_X11_init : Nat → List Value → Option (xL × List Value)
  | 0, [a0] => some ([some a0], [])
  | _, _ => none
def f_X11_init : Nat → Nat → List Value → xH → xO
  | 0 => fun _ _ _ => none
  | n + 1 => fun pc env P => match pc, env with
    | 0, [.ref a0] => b_X11_init_0 n (f_X11_init n) a0 P
    | _, _ => none
set_option maxHeartbeats 2000000 in
set_option maxRecDepth 20000 in
theorem t_X11_init_0 {G : xG} {l : Launch} (hl : l.stackTraces = false) {n : Nat} {rec : Nat → List Value → xH → xO} (hrec : ∀ pc env P z, rec pc env P = some z → ∀ L st, lay_X11_init pc env = some (L, st) → ∀ Q : xR → xH → Prop, Q z.1 z.2 → Wp G l 3 mX11_init pc L st P Q) {a0} {P : xH} {z : xR × xH} (h : b_X11_init_0 n rec a0 P = some z) {Q : xR → xH → Prop} (hQ : Q z.1 z.2) : Wp G l 3 mX11_init 0 [some (.ref a0)] [] P Q := by
  unfold b_X11_init_0 at h
  refine x_aload_nr dX11_init_0 rfl ?_
  refine x_objInit dX11_init_1 wl_X11_7 wi_objectInit wc_objectInit (Nat.le_of_ble_eq_true rfl) (by omega) ?_
  refine x_aload_nr dX11_init_4 rfl ?_
  refine x_sipush 2301 dX11_init_5 (by decide) ?_
  obtain ⟨P1, e2, h⟩ := Option.bind_eq_some_iff.mp h
  refine k_nI e2 dX11_init_8 ?_
  obtain ⟨P3, e4, h⟩ := Option.bind_eq_some_iff.mp h
  refine k_wA e4 dX11_init_10 f_X11_13 (Or.inr ⟨by decide, rfl, rfl⟩) rfl ?_
  refine x_aload_nr dX11_init_13 rfl ?_
  refine x_sipush 2301 dX11_init_14 (by decide) ?_
  obtain ⟨P5, e6, h⟩ := Option.bind_eq_some_iff.mp h
  refine k_nI e6 dX11_init_17 ?_
  obtain ⟨P7, e8, h⟩ := Option.bind_eq_some_iff.mp h
  refine k_wA e8 dX11_init_19 f_X11_17 (Or.inr ⟨by decide, rfl, rfl⟩) rfl ?_
  refine x_aload_nr dX11_init_22 rfl ?_
  refine x_sipush 5921 dX11_init_23 (by decide) ?_
  obtain ⟨P9, e10, h⟩ := Option.bind_eq_some_iff.mp h
  refine k_nI e10 dX11_init_26 ?_
  obtain ⟨P11, e12, h⟩ := Option.bind_eq_some_iff.mp h
  refine k_wA e12 dX11_init_28 f_X11_20 (Or.inr ⟨by decide, rfl, rfl⟩) rfl ?_
  refine x_aload_nr dX11_init_31 rfl ?_
  refine x_sipush 7381 dX11_init_32 (by decide) ?_
  obtain ⟨P13, e14, h⟩ := Option.bind_eq_some_iff.mp h
  refine k_nI e14 dX11_init_35 ?_
  obtain ⟨P15, e16, h⟩ := Option.bind_eq_some_iff.mp h
  refine k_wA e16 dX11_init_37 f_X11_23 (Or.inr ⟨by decide, rfl, rfl⟩) rfl ?_
  refine x_aload_nr dX11_init_40 rfl ?_
  refine x_sipush 400 dX11_init_41 (by decide) ?_
  obtain ⟨P17, e18, h⟩ := Option.bind_eq_some_iff.mp h
  refine k_nB e18 dX11_init_44 ?_
  obtain ⟨P19, e20, h⟩ := Option.bind_eq_some_iff.mp h
  refine k_wA e20 dX11_init_46 f_X11_26 (Or.inr ⟨by decide, rfl, rfl⟩) rfl ?_
  refine x_aload_nr dX11_init_49 rfl ?_
  refine x_iconst (-1) dX11_init_50 (by decide) ?_
  obtain ⟨P21, e22, h⟩ := Option.bind_eq_some_iff.mp h
  refine k_wI e22 dX11_init_51 f_X11_30 (Or.inl (by decide)) rfl ?_
  refine x_aload_nr dX11_init_54 rfl ?_
  refine x_iconst 5 dX11_init_55 (by decide) ?_
  obtain ⟨P23, e24, h⟩ := Option.bind_eq_some_iff.mp h
  refine k_nI e24 dX11_init_56 ?_
  obtain ⟨P25, e26, h⟩ := Option.bind_eq_some_iff.mp h
  refine k_wA e26 dX11_init_58 f_X11_33 (Or.inr ⟨by decide, rfl, rfl⟩) rfl ?_
  refine x_aload_nr dX11_init_61 rfl ?_
  refine x_bipush 7 dX11_init_62 (by decide) ?_
  obtain ⟨P27, e28, h⟩ := Option.bind_eq_some_iff.mp h
  refine k_nZ e28 dX11_init_64 ?_
  obtain ⟨P29, e30, h⟩ := Option.bind_eq_some_iff.mp h
  refine k_wA e30 dX11_init_66 f_X11_36 (Or.inr ⟨by decide, rfl, rfl⟩) rfl ?_
  refine x_aload_nr dX11_init_69 rfl ?_
  refine x_iconst 5 dX11_init_70 (by decide) ?_
  obtain ⟨P31, e32, h⟩ := Option.bind_eq_some_iff.mp h
  refine k_nI e32 dX11_init_71 ?_
  obtain ⟨P33, e34, h⟩ := Option.bind_eq_some_iff.mp h
  refine k_wA e34 dX11_init_73 f_X11_40 (Or.inr ⟨by decide, rfl, rfl⟩) rfl ?_
  refine x_aload_nr dX11_init_76 rfl ?_
  refine x_sipush 400 dX11_init_77 (by decide) ?_
  obtain ⟨P35, e36, h⟩ := Option.bind_eq_some_iff.mp h
  refine k_nZ e36 dX11_init_80 ?_
  obtain ⟨P37, e38, h⟩ := Option.bind_eq_some_iff.mp h
  refine k_wA e38 dX11_init_82 f_X11_43 (Or.inr ⟨by decide, rfl, rfl⟩) rfl ?_
  refine x_aload_nr dX11_init_85 rfl ?_
  refine x_bipush 60 dX11_init_86 (by decide) ?_
  obtain ⟨P39, e40, h⟩ := Option.bind_eq_some_iff.mp h
  refine k_nZ e40 dX11_init_88 ?_
  obtain ⟨P41, e42, h⟩ := Option.bind_eq_some_iff.mp h
  refine k_wA e42 dX11_init_90 f_X11_46 (Or.inr ⟨by decide, rfl, rfl⟩) rfl ?_
  refine x_aload_nr dX11_init_93 rfl ?_
  refine x_bipush 30 dX11_init_94 (by decide) ?_
  obtain ⟨P43, e44, h⟩ := Option.bind_eq_some_iff.mp h
  refine k_nI e44 dX11_init_96 ?_
  obtain ⟨P45, e46, h⟩ := Option.bind_eq_some_iff.mp h
  refine k_wA e46 dX11_init_98 f_X11_49 (Or.inr ⟨by decide, rfl, rfl⟩) rfl ?_
  refine x_aload_nr dX11_init_101 rfl ?_
  refine x_bipush 7 dX11_init_102 (by decide) ?_
  obtain ⟨P47, e48, h⟩ := Option.bind_eq_some_iff.mp h
  refine k_nI e48 dX11_init_104 ?_
  obtain ⟨P49, e50, h⟩ := Option.bind_eq_some_iff.mp h
  refine k_wA e50 dX11_init_106 f_X11_52 (Or.inr ⟨by decide, rfl, rfl⟩) rfl ?_
  refine x_aload_nr dX11_init_109 rfl ?_
  refine x_bipush 7 dX11_init_110 (by decide) ?_
  obtain ⟨P51, e52, h⟩ := Option.bind_eq_some_iff.mp h
  refine k_nI e52 dX11_init_112 ?_
  obtain ⟨P53, e54, h⟩ := Option.bind_eq_some_iff.mp h
  refine k_wA e54 dX11_init_114 f_X11_55 (Or.inr ⟨by decide, rfl, rfl⟩) rfl ?_
  refine x_aload_nr dX11_init_117 rfl ?_
  refine x_iconst 4 dX11_init_118 (by decide) ?_
  obtain ⟨P55, e56, h⟩ := Option.bind_eq_some_iff.mp h
  refine k_nI e56 dX11_init_119 ?_
  obtain ⟨P57, e58, h⟩ := Option.bind_eq_some_iff.mp h
  refine k_wA e58 dX11_init_121 f_X11_58 (Or.inr ⟨by decide, rfl, rfl⟩) rfl ?_
  refine x_aload_nr dX11_init_124 rfl ?_
  refine x_iconst 4 dX11_init_125 (by decide) ?_
  obtain ⟨P59, e60, h⟩ := Option.bind_eq_some_iff.mp h
  refine k_nI e60 dX11_init_126 ?_
  obtain ⟨P61, e62, h⟩ := Option.bind_eq_some_iff.mp h
  refine k_wA e62 dX11_init_128 f_X11_61 (Or.inr ⟨by decide, rfl, rfl⟩) rfl ?_
  refine x_aload_nr dX11_init_131 rfl ?_
  obtain ⟨v63, e64, h⟩ := Option.bind_eq_some_iff.mp h
  refine k_rA e64 dX11_init_132 f_X11_20 ?_
  refine x_bipush 6 dX11_init_135 (by decide) ?_
  refine x_iconst 1 dX11_init_137 (by decide) ?_
  obtain ⟨P65, e66, h⟩ := Option.bind_eq_some_iff.mp h
  refine k_sI e66 dX11_init_138 ?_
  refine x_aload_nr dX11_init_139 rfl ?_
  obtain ⟨v67, e68, h⟩ := Option.bind_eq_some_iff.mp h
  refine k_rA e68 dX11_init_140 f_X11_20 ?_
  refine x_bipush 7 dX11_init_143 (by decide) ?_
  refine x_bipush 10 dX11_init_145 (by decide) ?_
  obtain ⟨P69, e70, h⟩ := Option.bind_eq_some_iff.mp h
  refine k_sI e70 dX11_init_147 ?_
  cases h
  exact x_ret rfl dX11_init_148 hQ
theorem s_X11_init {G : xG} {l : Launch} (hl : l.stackTraces = false) : ∀ n pc env P z, f_X11_init n pc env P = some z → ∀ L st, lay_X11_init pc env = some (L, st) → ∀ Q : xR → xH → Prop, Q z.1 z.2 → Wp G l 3 mX11_init pc L st P Q := by
  intro n
  induction n with
  | zero => intro pc env P z h; cases h
  | succ n ih =>
    intro pc env P z h L st hlay Q hQ
    unfold f_X11_init at h
    split at h
    · cases hlay
      exact t_X11_init_0 hl ih h hQ
    · cases h
theorem c_X11_init {G : xG} {l : Launch} (hl : l.stackTraces = false) {n : Nat} {as : List Value} {P : xH} {z : xR × xH} (h : f_X11_init n 0 as P = some z) : Ct G l 3 mX11_init as P (fun r P1 => (r, P1) = z) := by
  cases n with
  | zero => cases h
  | succ n =>
    unfold f_X11_init at h
    split at h
    · exact Ct.of hl (by decide +kernel) wc_X11_init (Nat.le_of_ble_eq_true rfl) (t_X11_init_0 hl (s_X11_init hl _) h rfl)
    all_goals first | (cases h; done) | (rename_i q9 _; exact absurd q9 (by decide)) | (rename_i q9; exact absurd q9 (by decide)) | contradiction
/-! QuakeNetModel.image()V -/
def b_X11_image_0 (n : Nat) (rec : Nat → List Value → xH → xO) (a0 : Nat) (P : xH) : xO :=
  (wV P a0 11 0 (.int 0)).bind fun P1 =>
  rec 7 [.ref a0, .int 0] P1
def b_X11_image_7 (n : Nat) (rec : Nat → List Value → xH → xO) (a0 : Nat) (a1 : Int32) (P : xH) : xO :=
  if 5080 ≤ a1 then
    rec 34 [.ref a0, .int 0] P
  else
    (rA P a0 11 4).bind fun v1 =>
    (rA P a0 11 3).bind fun v3 =>
    (aI P v3 a1).bind fun v5 =>
    (sI P v1 a1 v5).bind fun P7 =>
    rec 7 [.ref a0, .int ((a1 + 1))] P7
def b_X11_image_34 (n : Nat) (rec : Nat → List Value → xH → xO) (a0 : Nat) (a1 : Int32) (P : xH) : xO :=
  if 2301 ≤ a1 then
    (wV P a0 11 5 (.int 1)).bind fun P1 =>
    some (.inl none, P1)
  else
    (rA P a0 11 4).bind fun v4 =>
    (rA P a0 11 1).bind fun v6 =>
    (aI P v6 a1).bind fun v8 =>
    (sI P v4 ((5080 + a1)) v8).bind fun P10 =>
    rec 34 [.ref a0, .int ((a1 + 1))] P10
def lay_X11_image : Nat → List Value → Option (xL × List Value)
  | 0, [a0] => some ([some a0, none], [])
  | 7, [a0, a1] => some ([some a0, some a1], [])
  | 34, [a0, a1] => some ([some a0, some a1], [])
  | _, _ => none
def f_X11_image : Nat → Nat → List Value → xH → xO
  | 0 => fun _ _ _ => none
  | n + 1 => fun pc env P => match pc, env with
    | 0, [.ref a0] => b_X11_image_0 n (f_X11_image n) a0 P
    | 7, [.ref a0, .int a1] => b_X11_image_7 n (f_X11_image n) a0 a1 P
    | 34, [.ref a0, .int a1] => b_X11_image_34 n (f_X11_image n) a0 a1 P
    | _, _ => none
set_option maxHeartbeats 2000000 in
set_option maxRecDepth 20000 in
theorem t_X11_image_0 {G : xG} {l : Launch} (hl : l.stackTraces = false) {n : Nat} {rec : Nat → List Value → xH → xO} (hrec : ∀ pc env P z, rec pc env P = some z → ∀ L st, lay_X11_image pc env = some (L, st) → ∀ Q : xR → xH → Prop, Q z.1 z.2 → Wp G l 3 mX11_image pc L st P Q) {a0} {P : xH} {z : xR × xH} (h : b_X11_image_0 n rec a0 P = some z) {Q : xR → xH → Prop} (hQ : Q z.1 z.2) : Wp G l 3 mX11_image 0 [some (.ref a0), none] [] P Q := by
  unfold b_X11_image_0 at h
  refine x_aload_nr dX11_image_0 rfl ?_
  refine x_iconst 0 dX11_image_1 (by decide) ?_
  obtain ⟨P1, e2, h⟩ := Option.bind_eq_some_iff.mp h
  refine k_wI e2 dX11_image_2 f_X11_3 (Or.inl (by decide)) rfl ?_
  refine x_iconst 0 dX11_image_5 (by decide) ?_
  refine x_istore_n dX11_image_6 (Nat.le_of_ble_eq_true rfl) ?_
  exact Wp.mask [true, true] (hrec 7 _ _ _ h _ _ rfl _ hQ)
set_option maxHeartbeats 2000000 in
set_option maxRecDepth 20000 in
theorem t_X11_image_7 {G : xG} {l : Launch} (hl : l.stackTraces = false) {n : Nat} {rec : Nat → List Value → xH → xO} (hrec : ∀ pc env P z, rec pc env P = some z → ∀ L st, lay_X11_image pc env = some (L, st) → ∀ Q : xR → xH → Prop, Q z.1 z.2 → Wp G l 3 mX11_image pc L st P Q) {a0 a1} {P : xH} {z : xR × xH} (h : b_X11_image_7 n rec a0 a1 P = some z) {Q : xR → xH → Prop} (hQ : Q z.1 z.2) : Wp G l 3 mX11_image 7 [some (.ref a0), some (.int a1)] [] P Q := by
  unfold b_X11_image_7 at h
  refine x_iload_n dX11_image_7 rfl ?_
  refine x_sipush 5080 dX11_image_8 (by decide) ?_
  refine x_icmp_ge 32 dX11_image_11 (by decide) (fun q9 => ?_) (fun q9 => ?_)
  · rw [if_pos q9] at h
    refine x_iconst 0 dX11_image_32 (by decide) ?_
    refine x_istore_n dX11_image_33 (Nat.le_of_ble_eq_true rfl) ?_
    exact Wp.mask [true, true] (hrec 34 _ _ _ h _ _ rfl _ hQ)
  · rw [if_neg q9] at h
    refine x_aload_nr dX11_image_14 rfl ?_
    obtain ⟨v1, e2, h⟩ := Option.bind_eq_some_iff.mp h
    refine k_rA e2 dX11_image_15 f_X11_23 ?_
    refine x_iload_n dX11_image_18 rfl ?_
    refine x_aload_nr dX11_image_19 rfl ?_
    obtain ⟨v3, e4, h⟩ := Option.bind_eq_some_iff.mp h
    refine k_rA e4 dX11_image_20 f_X11_20 ?_
    refine x_iload_n dX11_image_23 rfl ?_
    obtain ⟨v5, e6, h⟩ := Option.bind_eq_some_iff.mp h
    refine k_aI e6 dX11_image_24 ?_
    obtain ⟨P7, e8, h⟩ := Option.bind_eq_some_iff.mp h
    refine k_sI e8 dX11_image_25 ?_
    refine x_iinc (a1 + 1) dX11_image_26 rfl (by rfl) ?_
    refine x_goto 7 dX11_image_29 (by decide) ?_
    exact Wp.mask [true, true] (hrec 7 _ _ _ h _ _ rfl _ hQ)
set_option maxHeartbeats 2000000 in
set_option maxRecDepth 20000 in
theorem t_X11_image_34 {G : xG} {l : Launch} (hl : l.stackTraces = false) {n : Nat} {rec : Nat → List Value → xH → xO} (hrec : ∀ pc env P z, rec pc env P = some z → ∀ L st, lay_X11_image pc env = some (L, st) → ∀ Q : xR → xH → Prop, Q z.1 z.2 → Wp G l 3 mX11_image pc L st P Q) {a0 a1} {P : xH} {z : xR × xH} (h : b_X11_image_34 n rec a0 a1 P = some z) {Q : xR → xH → Prop} (hQ : Q z.1 z.2) : Wp G l 3 mX11_image 34 [some (.ref a0), some (.int a1)] [] P Q := by
  unfold b_X11_image_34 at h
  refine x_iload_n dX11_image_34 rfl ?_
  refine x_sipush 2301 dX11_image_35 (by decide) ?_
  refine x_icmp_ge 63 dX11_image_38 (by decide) (fun q12 => ?_) (fun q12 => ?_)
  · rw [if_pos q12] at h
    refine x_aload_nr dX11_image_63 rfl ?_
    refine x_iconst 1 dX11_image_64 (by decide) ?_
    obtain ⟨P1, e3, h⟩ := Option.bind_eq_some_iff.mp h
    refine k_wZ e3 (by decide) dX11_image_65 f_X11_81 (Or.inl (by decide)) rfl ?_
    cases h
    exact x_ret rfl dX11_image_68 hQ
  · rw [if_neg q12] at h
    refine x_aload_nr dX11_image_41 rfl ?_
    obtain ⟨v4, e5, h⟩ := Option.bind_eq_some_iff.mp h
    refine k_rA e5 dX11_image_42 f_X11_23 ?_
    refine x_sipush 5080 dX11_image_45 (by decide) ?_
    refine x_iload_n dX11_image_48 rfl ?_
    refine x_iadd dX11_image_49 ?_
    refine x_aload_nr dX11_image_50 rfl ?_
    obtain ⟨v6, e7, h⟩ := Option.bind_eq_some_iff.mp h
    refine k_rA e7 dX11_image_51 f_X11_13 ?_
    refine x_iload_n dX11_image_54 rfl ?_
    obtain ⟨v8, e9, h⟩ := Option.bind_eq_some_iff.mp h
    refine k_aI e9 dX11_image_55 ?_
    obtain ⟨P10, e11, h⟩ := Option.bind_eq_some_iff.mp h
    refine k_sI e11 dX11_image_56 ?_
    refine x_iinc (a1 + 1) dX11_image_57 rfl (by rfl) ?_
    refine x_goto 34 dX11_image_60 (by decide) ?_
    exact Wp.mask [true, true] (hrec 34 _ _ _ h _ _ rfl _ hQ)
theorem s_X11_image {G : xG} {l : Launch} (hl : l.stackTraces = false) : ∀ n pc env P z, f_X11_image n pc env P = some z → ∀ L st, lay_X11_image pc env = some (L, st) → ∀ Q : xR → xH → Prop, Q z.1 z.2 → Wp G l 3 mX11_image pc L st P Q := by
  intro n
  induction n with
  | zero => intro pc env P z h; cases h
  | succ n ih =>
    intro pc env P z h L st hlay Q hQ
    unfold f_X11_image at h
    split at h
    · cases hlay
      exact t_X11_image_0 hl ih h hQ
    · cases hlay
      exact t_X11_image_7 hl ih h hQ
    · cases hlay
      exact t_X11_image_34 hl ih h hQ
    · cases h
theorem c_X11_image {G : xG} {l : Launch} (hl : l.stackTraces = false) {n : Nat} {as : List Value} {P : xH} {z : xR × xH} (h : f_X11_image n 0 as P = some z) : Ct G l 3 mX11_image as P (fun r P1 => (r, P1) = z) := by
  cases n with
  | zero => cases h
  | succ n =>
    unfold f_X11_image at h
    split at h
    · exact Ct.of hl (by decide +kernel) wc_X11_image (Nat.le_of_ble_eq_true rfl) (t_X11_image_0 hl (s_X11_image hl _) h rfl)
    all_goals first | (cases h; done) | (rename_i q9 _; exact absurd q9 (by decide)) | (rename_i q9; exact absurd q9 (by decide)) | contradiction
/-! QuakeNetModel.back()Z -/
def b_X11_back_0 (n : Nat) (rec : Nat → List Value → xH → xO) (a0 : Nat) (P : xH) : xO :=
  (wV P a0 11 0 (.int 0)).bind fun P1 =>
  (rI P1 a0 11 5).bind fun v3 =>
  if ¬ v3 = 0 then
    rec 16 [.ref a0, .int 0] P1
  else
    some (.inl (some (.int 0)), P1)
def b_X11_back_16 (n : Nat) (rec : Nat → List Value → xH → xO) (a0 : Nat) (a1 : Int32) (P : xH) : xO :=
  if 5080 ≤ a1 then
    rec 43 [.ref a0, .int 0] P
  else
    (rA P a0 11 3).bind fun v1 =>
    (rA P a0 11 4).bind fun v3 =>
    (aI P v3 a1).bind fun v5 =>
    (sI P v1 a1 v5).bind fun P7 =>
    rec 16 [.ref a0, .int ((a1 + 1))] P7
def b_X11_back_43 (n : Nat) (rec : Nat → List Value → xH → xO) (a0 : Nat) (a1 : Int32) (P : xH) : xO :=
  if 2301 ≤ a1 then
    some (.inl (some (.int 1)), P)
  else
    (rA P a0 11 1).bind fun v1 =>
    (rA P a0 11 4).bind fun v3 =>
    (aI P v3 ((5080 + a1))).bind fun v5 =>
    (sI P v1 a1 v5).bind fun P7 =>
    rec 43 [.ref a0, .int ((a1 + 1))] P7
def lay_X11_back : Nat → List Value → Option (xL × List Value)
  | 0, [a0] => some ([some a0, none], [])
  | 16, [a0, a1] => some ([some a0, some a1], [])
  | 43, [a0, a1] => some ([some a0, some a1], [])
  | _, _ => none
def f_X11_back : Nat → Nat → List Value → xH → xO
  | 0 => fun _ _ _ => none
  | n + 1 => fun pc env P => match pc, env with
    | 0, [.ref a0] => b_X11_back_0 n (f_X11_back n) a0 P
    | 16, [.ref a0, .int a1] => b_X11_back_16 n (f_X11_back n) a0 a1 P
    | 43, [.ref a0, .int a1] => b_X11_back_43 n (f_X11_back n) a0 a1 P
    | _, _ => none
set_option maxHeartbeats 2000000 in
set_option maxRecDepth 20000 in
theorem t_X11_back_0 {G : xG} {l : Launch} (hl : l.stackTraces = false) {n : Nat} {rec : Nat → List Value → xH → xO} (hrec : ∀ pc env P z, rec pc env P = some z → ∀ L st, lay_X11_back pc env = some (L, st) → ∀ Q : xR → xH → Prop, Q z.1 z.2 → Wp G l 3 mX11_back pc L st P Q) {a0} {P : xH} {z : xR × xH} (h : b_X11_back_0 n rec a0 P = some z) {Q : xR → xH → Prop} (hQ : Q z.1 z.2) : Wp G l 3 mX11_back 0 [some (.ref a0), none] [] P Q := by
  unfold b_X11_back_0 at h
  refine x_aload_nr dX11_back_0 rfl ?_
  refine x_iconst 0 dX11_back_1 (by decide) ?_
  obtain ⟨P1, e2, h⟩ := Option.bind_eq_some_iff.mp h
  refine k_wI e2 dX11_back_2 f_X11_3 (Or.inl (by decide)) rfl ?_
  refine x_aload_nr dX11_back_5 rfl ?_
  obtain ⟨v3, e4, h⟩ := Option.bind_eq_some_iff.mp h
  refine k_rI e4 dX11_back_6 f_X11_81 ?_
  refine x_if_ne 14 dX11_back_9 (by decide) (fun q5 => ?_) (fun q5 => ?_)
  · rw [if_pos q5] at h
    refine x_iconst 0 dX11_back_14 (by decide) ?_
    refine x_istore_n dX11_back_15 (Nat.le_of_ble_eq_true rfl) ?_
    exact Wp.mask [true, true] (hrec 16 _ _ _ h _ _ rfl _ hQ)
  · rw [if_neg (fun z9 => z9 q5)] at h
    refine x_iconst 0 dX11_back_12 (by decide) ?_
    cases h
    exact x_iret .boolean rfl rfl dX11_back_13 hQ
set_option maxHeartbeats 2000000 in
set_option maxRecDepth 20000 in
theorem t_X11_back_16 {G : xG} {l : Launch} (hl : l.stackTraces = false) {n : Nat} {rec : Nat → List Value → xH → xO} (hrec : ∀ pc env P z, rec pc env P = some z → ∀ L st, lay_X11_back pc env = some (L, st) → ∀ Q : xR → xH → Prop, Q z.1 z.2 → Wp G l 3 mX11_back pc L st P Q) {a0 a1} {P : xH} {z : xR × xH} (h : b_X11_back_16 n rec a0 a1 P = some z) {Q : xR → xH → Prop} (hQ : Q z.1 z.2) : Wp G l 3 mX11_back 16 [some (.ref a0), some (.int a1)] [] P Q := by
  unfold b_X11_back_16 at h
  refine x_iload_n dX11_back_16 rfl ?_
  refine x_sipush 5080 dX11_back_17 (by decide) ?_
  refine x_icmp_ge 41 dX11_back_20 (by decide) (fun q9 => ?_) (fun q9 => ?_)
  · rw [if_pos q9] at h
    refine x_iconst 0 dX11_back_41 (by decide) ?_
    refine x_istore_n dX11_back_42 (Nat.le_of_ble_eq_true rfl) ?_
    exact Wp.mask [true, true] (hrec 43 _ _ _ h _ _ rfl _ hQ)
  · rw [if_neg q9] at h
    refine x_aload_nr dX11_back_23 rfl ?_
    obtain ⟨v1, e2, h⟩ := Option.bind_eq_some_iff.mp h
    refine k_rA e2 dX11_back_24 f_X11_20 ?_
    refine x_iload_n dX11_back_27 rfl ?_
    refine x_aload_nr dX11_back_28 rfl ?_
    obtain ⟨v3, e4, h⟩ := Option.bind_eq_some_iff.mp h
    refine k_rA e4 dX11_back_29 f_X11_23 ?_
    refine x_iload_n dX11_back_32 rfl ?_
    obtain ⟨v5, e6, h⟩ := Option.bind_eq_some_iff.mp h
    refine k_aI e6 dX11_back_33 ?_
    obtain ⟨P7, e8, h⟩ := Option.bind_eq_some_iff.mp h
    refine k_sI e8 dX11_back_34 ?_
    refine x_iinc (a1 + 1) dX11_back_35 rfl (by rfl) ?_
    refine x_goto 16 dX11_back_38 (by decide) ?_
    exact Wp.mask [true, true] (hrec 16 _ _ _ h _ _ rfl _ hQ)
set_option maxHeartbeats 2000000 in
set_option maxRecDepth 20000 in
theorem t_X11_back_43 {G : xG} {l : Launch} (hl : l.stackTraces = false) {n : Nat} {rec : Nat → List Value → xH → xO} (hrec : ∀ pc env P z, rec pc env P = some z → ∀ L st, lay_X11_back pc env = some (L, st) → ∀ Q : xR → xH → Prop, Q z.1 z.2 → Wp G l 3 mX11_back pc L st P Q) {a0 a1} {P : xH} {z : xR × xH} (h : b_X11_back_43 n rec a0 a1 P = some z) {Q : xR → xH → Prop} (hQ : Q z.1 z.2) : Wp G l 3 mX11_back 43 [some (.ref a0), some (.int a1)] [] P Q := by
  unfold b_X11_back_43 at h
  refine x_iload_n dX11_back_43 rfl ?_
  refine x_sipush 2301 dX11_back_44 (by decide) ?_
  refine x_icmp_ge 72 dX11_back_47 (by decide) (fun q9 => ?_) (fun q9 => ?_)
  · rw [if_pos q9] at h
    refine x_iconst 1 dX11_back_72 (by decide) ?_
    cases h
    exact x_iret .boolean rfl rfl dX11_back_73 hQ
  · rw [if_neg q9] at h
    refine x_aload_nr dX11_back_50 rfl ?_
    obtain ⟨v1, e2, h⟩ := Option.bind_eq_some_iff.mp h
    refine k_rA e2 dX11_back_51 f_X11_13 ?_
    refine x_iload_n dX11_back_54 rfl ?_
    refine x_aload_nr dX11_back_55 rfl ?_
    obtain ⟨v3, e4, h⟩ := Option.bind_eq_some_iff.mp h
    refine k_rA e4 dX11_back_56 f_X11_23 ?_
    refine x_sipush 5080 dX11_back_59 (by decide) ?_
    refine x_iload_n dX11_back_62 rfl ?_
    refine x_iadd dX11_back_63 ?_
    obtain ⟨v5, e6, h⟩ := Option.bind_eq_some_iff.mp h
    refine k_aI e6 dX11_back_64 ?_
    obtain ⟨P7, e8, h⟩ := Option.bind_eq_some_iff.mp h
    refine k_sI e8 dX11_back_65 ?_
    refine x_iinc (a1 + 1) dX11_back_66 rfl (by rfl) ?_
    refine x_goto 43 dX11_back_69 (by decide) ?_
    exact Wp.mask [true, true] (hrec 43 _ _ _ h _ _ rfl _ hQ)
theorem s_X11_back {G : xG} {l : Launch} (hl : l.stackTraces = false) : ∀ n pc env P z, f_X11_back n pc env P = some z → ∀ L st, lay_X11_back pc env = some (L, st) → ∀ Q : xR → xH → Prop, Q z.1 z.2 → Wp G l 3 mX11_back pc L st P Q := by
  intro n
  induction n with
  | zero => intro pc env P z h; cases h
  | succ n ih =>
    intro pc env P z h L st hlay Q hQ
    unfold f_X11_back at h
    split at h
    · cases hlay
      exact t_X11_back_0 hl ih h hQ
    · cases hlay
      exact t_X11_back_16 hl ih h hQ
    · cases hlay
      exact t_X11_back_43 hl ih h hQ
    · cases h
theorem c_X11_back {G : xG} {l : Launch} (hl : l.stackTraces = false) {n : Nat} {as : List Value} {P : xH} {z : xR × xH} (h : f_X11_back n 0 as P = some z) : Ct G l 3 mX11_back as P (fun r P1 => (r, P1) = z) := by
  cases n with
  | zero => cases h
  | succ n =>
    unfold f_X11_back at h
    split at h
    · exact Ct.of hl (by decide +kernel) wc_X11_back (Nat.le_of_ble_eq_true rfl) (t_X11_back_0 hl (s_X11_back hl _) h rfl)
    all_goals first | (cases h; done) | (rename_i q9 _; exact absurd q9 (by decide)) | (rename_i q9; exact absurd q9 (by decide)) | contradiction
/-! QuakeNetModel.copyAt(III)I -/
def b_X11_copyAt_0 (n : Nat) (rec : Nat → List Value → xH → xO) (a0 : Int32) (a1 : Int32) (a2 : Int32) (P : xH) : xO :=
  some (.inl (some (.int ((((51 + ((7 * ((((30 * a0)) + a1)))))) + a2)))), P)
def lay_X11_copyAt : Nat → List Value → Option (xL × List Value)
  | 0, [a0, a1, a2] => some ([some a0, some a1, some a2], [])
  | _, _ => none
def f_X11_copyAt : Nat → Nat → List Value → xH → xO
  | 0 => fun _ _ _ => none
  | n + 1 => fun pc env P => match pc, env with
    | 0, [.int a0, .int a1, .int a2] => b_X11_copyAt_0 n (f_X11_copyAt n) a0 a1 a2 P
    | _, _ => none
set_option maxHeartbeats 2000000 in
set_option maxRecDepth 20000 in
theorem t_X11_copyAt_0 {G : xG} {l : Launch} (hl : l.stackTraces = false) {n : Nat} {rec : Nat → List Value → xH → xO} (hrec : ∀ pc env P z, rec pc env P = some z → ∀ L st, lay_X11_copyAt pc env = some (L, st) → ∀ Q : xR → xH → Prop, Q z.1 z.2 → Wp G l 3 mX11_copyAt pc L st P Q) {a0 a1 a2} {P : xH} {z : xR × xH} (h : b_X11_copyAt_0 n rec a0 a1 a2 P = some z) {Q : xR → xH → Prop} (hQ : Q z.1 z.2) : Wp G l 3 mX11_copyAt 0 [some (.int a0), some (.int a1), some (.int a2)] [] P Q := by
  unfold b_X11_copyAt_0 at h
  refine x_bipush 51 dX11_copyAt_0 (by decide) ?_
  refine x_bipush 7 dX11_copyAt_2 (by decide) ?_
  refine x_bipush 30 dX11_copyAt_4 (by decide) ?_
  refine x_iload_n dX11_copyAt_6 rfl ?_
  refine x_imul dX11_copyAt_7 ?_
  refine x_iload_n dX11_copyAt_8 rfl ?_
  refine x_iadd dX11_copyAt_9 ?_
  refine x_imul dX11_copyAt_10 ?_
  refine x_iadd dX11_copyAt_11 ?_
  refine x_iload_n dX11_copyAt_12 rfl ?_
  refine x_iadd dX11_copyAt_13 ?_
  cases h
  exact x_iret .int rfl rfl dX11_copyAt_14 hQ
theorem s_X11_copyAt {G : xG} {l : Launch} (hl : l.stackTraces = false) : ∀ n pc env P z, f_X11_copyAt n pc env P = some z → ∀ L st, lay_X11_copyAt pc env = some (L, st) → ∀ Q : xR → xH → Prop, Q z.1 z.2 → Wp G l 3 mX11_copyAt pc L st P Q := by
  intro n
  induction n with
  | zero => intro pc env P z h; cases h
  | succ n ih =>
    intro pc env P z h L st hlay Q hQ
    unfold f_X11_copyAt at h
    split at h
    · cases hlay
      exact t_X11_copyAt_0 hl ih h hQ
    · cases h
theorem c_X11_copyAt {G : xG} {l : Launch} (hl : l.stackTraces = false) {n : Nat} {as : List Value} {P : xH} {z : xR × xH} (h : f_X11_copyAt n 0 as P = some z) : Ct G l 3 mX11_copyAt as P (fun r P1 => (r, P1) = z) := by
  cases n with
  | zero => cases h
  | succ n =>
    unfold f_X11_copyAt at h
    split at h
    · exact Ct.of hl (by decide +kernel) wc_X11_copyAt (Nat.le_of_ble_eq_true rfl) (t_X11_copyAt_0 hl (s_X11_copyAt hl _) h rfl)
    all_goals first | (cases h; done) | (rename_i q9 _; exact absurd q9 (by decide)) | (rename_i q9; exact absurd q9 (by decide)) | contradiction
/-! QuakeNetModel.in(III)Z -/
def b_X11_in_0 (n : Nat) (rec : Nat → List Value → xH → xO) (a0 : Int32) (a1 : Int32) (a2 : Int32) (P : xH) : xO :=
  if a0 < a1 then
    some (.inl (some (.int 0)), P)
  else
    if a2 < a0 then
      some (.inl (some (.int 0)), P)
    else
      some (.inl (some (.int 1)), P)
def lay_X11_in : Nat → List Value → Option (xL × List Value)
  | 0, [a0, a1, a2] => some ([some a0, some a1, some a2], [])
  | _, _ => none
def f_X11_in : Nat → Nat → List Value → xH → xO
  | 0 => fun _ _ _ => none
  | n + 1 => fun pc env P => match pc, env with
    | 0, [.int a0, .int a1, .int a2] => b_X11_in_0 n (f_X11_in n) a0 a1 a2 P
    | _, _ => none
set_option maxHeartbeats 2000000 in
set_option maxRecDepth 20000 in
theorem t_X11_in_0 {G : xG} {l : Launch} (hl : l.stackTraces = false) {n : Nat} {rec : Nat → List Value → xH → xO} (hrec : ∀ pc env P z, rec pc env P = some z → ∀ L st, lay_X11_in pc env = some (L, st) → ∀ Q : xR → xH → Prop, Q z.1 z.2 → Wp G l 3 mX11_in pc L st P Q) {a0 a1 a2} {P : xH} {z : xR × xH} (h : b_X11_in_0 n rec a0 a1 a2 P = some z) {Q : xR → xH → Prop} (hQ : Q z.1 z.2) : Wp G l 3 mX11_in 0 [some (.int a0), some (.int a1), some (.int a2)] [] P Q := by
  unfold b_X11_in_0 at h
  refine x_iload_n dX11_in_0 rfl ?_
  refine x_iload_n dX11_in_1 rfl ?_
  refine x_icmp_lt 14 dX11_in_2 (by decide) (fun q2 => ?_) (fun q2 => ?_)
  · rw [if_pos q2] at h
    refine x_iconst 0 dX11_in_14 (by decide) ?_
    cases h
    exact x_iret .boolean rfl rfl dX11_in_15 hQ
  · rw [if_neg q2] at h
    refine x_iload_n dX11_in_5 rfl ?_
    refine x_iload_n dX11_in_6 rfl ?_
    refine x_icmp_gt 14 dX11_in_7 (by decide) (fun q1 => ?_) (fun q1 => ?_)
    · rw [if_pos q1] at h
      refine x_iconst 0 dX11_in_14 (by decide) ?_
      cases h
      exact x_iret .boolean rfl rfl dX11_in_15 hQ
    · rw [if_neg q1] at h
      refine x_iconst 1 dX11_in_10 (by decide) ?_
      refine x_goto 15 dX11_in_11 (by decide) ?_
      cases h
      exact x_iret .boolean rfl rfl dX11_in_15 hQ
theorem s_X11_in {G : xG} {l : Launch} (hl : l.stackTraces = false) : ∀ n pc env P z, f_X11_in n pc env P = some z → ∀ L st, lay_X11_in pc env = some (L, st) → ∀ Q : xR → xH → Prop, Q z.1 z.2 → Wp G l 3 mX11_in pc L st P Q := by
  intro n
  induction n with
  | zero => intro pc env P z h; cases h
  | succ n ih =>
    intro pc env P z h L st hlay Q hQ
    unfold f_X11_in at h
    split at h
    · cases hlay
      exact t_X11_in_0 hl ih h hQ
    · cases h
theorem c_X11_in {G : xG} {l : Launch} (hl : l.stackTraces = false) {n : Nat} {as : List Value} {P : xH} {z : xR × xH} (h : f_X11_in n 0 as P = some z) : Ct G l 3 mX11_in as P (fun r P1 => (r, P1) = z) := by
  cases n with
  | zero => cases h
  | succ n =>
    unfold f_X11_in at h
    split at h
    · exact Ct.of hl (by decide +kernel) wc_X11_in (Nat.le_of_ble_eq_true rfl) (t_X11_in_0 hl (s_X11_in hl _) h rfl)
    all_goals first | (cases h; done) | (rename_i q9 _; exact absurd q9 (by decide)) | (rename_i q9; exact absurd q9 (by decide)) | contradiction
/-! QuakeNetModel.noPlace(I)Z -/
def b_X11_noPlace_0 (n : Nat) (rec : Nat → List Value → xH → xO) (a0 : Int32) (P : xH) : xO :=
  (f_X11_in n 0 [.int a0, .int 0, .int 15] P).bind fun r2 => xI r2 fun v4 P1 =>
  if ¬ v4 = 0 then
    some (.inl (some (.int 0)), P1)
  else
    some (.inl (some (.int 1)), P1)
def lay_X11_noPlace : Nat → List Value → Option (xL × List Value)
  | 0, [a0] => some ([some a0], [])
  | _, _ => none
def f_X11_noPlace : Nat → Nat → List Value → xH → xO
  | 0 => fun _ _ _ => none
  | n + 1 => fun pc env P => match pc, env with
    | 0, [.int a0] => b_X11_noPlace_0 n (f_X11_noPlace n) a0 P
    | _, _ => none
set_option maxHeartbeats 2000000 in
set_option maxRecDepth 20000 in
theorem t_X11_noPlace_0 {G : xG} {l : Launch} (hl : l.stackTraces = false) {n : Nat} {rec : Nat → List Value → xH → xO} (hrec : ∀ pc env P z, rec pc env P = some z → ∀ L st, lay_X11_noPlace pc env = some (L, st) → ∀ Q : xR → xH → Prop, Q z.1 z.2 → Wp G l 4 mX11_noPlace pc L st P Q) {a0} {P : xH} {z : xR × xH} (h : b_X11_noPlace_0 n rec a0 P = some z) {Q : xR → xH → Prop} (hQ : Q z.1 z.2) : Wp G l 4 mX11_noPlace 0 [some (.int a0)] [] P Q := by
  unfold b_X11_noPlace_0 at h
  refine x_iload_n dX11_noPlace_0 rfl ?_
  refine x_iconst 0 dX11_noPlace_1 (by decide) ?_
  refine x_bipush 15 dX11_noPlace_2 (by decide) ?_
  obtain ⟨r2, e3, h⟩ := Option.bind_eq_some_iff.mp h
  replace h := xI_ok h
  obtain ⟨v4, P1, rfl, h⟩ := h
  refine x_callS (c_X11_in hl e3) dX11_noPlace_4 cw_X11_in wl_X11_68 ws_X11_in rfl (by omega) (by decide) rfl (Nat.le_of_ble_eq_true rfl) rfl (fun v9 P9 hq9 => ?_) (fun i9 P9 hq9 => by cases hq9)
  cases hq9
  refine x_if_ne 14 dX11_noPlace_7 (by decide) (fun q5 => ?_) (fun q5 => ?_)
  · rw [if_pos q5] at h
    refine x_iconst 0 dX11_noPlace_14 (by decide) ?_
    cases h
    exact x_iret .boolean rfl rfl dX11_noPlace_15 hQ
  · rw [if_neg (fun z9 => z9 q5)] at h
    refine x_iconst 1 dX11_noPlace_10 (by decide) ?_
    refine x_goto 15 dX11_noPlace_11 (by decide) ?_
    cases h
    exact x_iret .boolean rfl rfl dX11_noPlace_15 hQ
theorem s_X11_noPlace {G : xG} {l : Launch} (hl : l.stackTraces = false) : ∀ n pc env P z, f_X11_noPlace n pc env P = some z → ∀ L st, lay_X11_noPlace pc env = some (L, st) → ∀ Q : xR → xH → Prop, Q z.1 z.2 → Wp G l 4 mX11_noPlace pc L st P Q := by
  intro n
  induction n with
  | zero => intro pc env P z h; cases h
  | succ n ih =>
    intro pc env P z h L st hlay Q hQ
    unfold f_X11_noPlace at h
    split at h
    · cases hlay
      exact t_X11_noPlace_0 hl ih h hQ
    · cases h
theorem c_X11_noPlace {G : xG} {l : Launch} (hl : l.stackTraces = false) {n : Nat} {as : List Value} {P : xH} {z : xR × xH} (h : f_X11_noPlace n 0 as P = some z) : Ct G l 4 mX11_noPlace as P (fun r P1 => (r, P1) = z) := by
  cases n with
  | zero => cases h
  | succ n =>
    unfold f_X11_noPlace at h
    split at h
    · exact Ct.of hl (by decide +kernel) wc_X11_noPlace (Nat.le_of_ble_eq_true rfl) (t_X11_noPlace_0 hl (s_X11_noPlace hl _) h rfl)
    all_goals first | (cases h; done) | (rename_i q9 _; exact absurd q9 (by decide)) | (rename_i q9; exact absurd q9 (by decide)) | contradiction
