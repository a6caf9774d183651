/-! QuakeNet$Reader.hasSpace(I)Z -/
def b_X3_hasSpace_0 (n : Nat) (rec : Nat → List Value → xH → xO) (a0 : Nat) (a1 : Int32) (P : xH) : xO :=
  (rI P a0 3 2).bind fun v1 =>
  (rA P a0 3 1).bind fun v3 =>
  (aL P v3).bind fun v5 =>
  if v5 < ((v1 + a1)) then
    some (.inl (some (.int 0)), P)
  else
    some (.inl (some (.int 1)), P)
def lay_X3_hasSpace : Nat → List Value → Option (xL × List Value)
  | 0, [a0, a1] => some ([some a0, some a1], [])
  | _, _ => none
def f_X3_hasSpace : Nat → Nat → List Value → xH → xO
  | 0 => fun _ _ _ => none
  | n + 1 => fun pc env P => match pc, env with
    | 0, [.ref a0, .int a1] => b_X3_hasSpace_0 n (f_X3_hasSpace n) a0 a1 P
    | _, _ => none
set_option maxHeartbeats 2000000 in
set_option maxRecDepth 20000 in
theorem t_X3_hasSpace_0 {G : xG} {l : Launch} (hl : l.stackTraces = false) {n : Nat} {rec : Nat → List Value → xH → xO} (hrec : ∀ pc env P z, rec pc env P = some z → ∀ L st, lay_X3_hasSpace pc env = some (L, st) → ∀ Q : xR → xH → Prop, Q z.1 z.2 → Wp G l 3 mX3_hasSpace pc L st P Q) {a0 a1} {P : xH} {z : xR × xH} (h : b_X3_hasSpace_0 n rec a0 a1 P = some z) {Q : xR → xH → Prop} (hQ : Q z.1 z.2) : Wp G l 3 mX3_hasSpace 0 [some (.ref a0), some (.int a1)] [] P Q := by
  unfold b_X3_hasSpace_0 at h
  refine x_aload_nr dX3_hasSpace_0 rfl ?_
  obtain ⟨v1, e2, h⟩ := Option.bind_eq_some_iff.mp h
  refine k_rI e2 dX3_hasSpace_1 f_X3_26 ?_
  refine x_iload_n dX3_hasSpace_4 rfl ?_
  refine x_iadd dX3_hasSpace_5 ?_
  refine x_aload_nr dX3_hasSpace_6 rfl ?_
  obtain ⟨v3, e4, h⟩ := Option.bind_eq_some_iff.mp h
  refine k_rA e4 dX3_hasSpace_7 f_X3_18 ?_
  obtain ⟨v5, e6, h⟩ := Option.bind_eq_some_iff.mp h
  refine k_aL e6 dX3_hasSpace_10 ?_
  refine x_icmp_gt 18 dX3_hasSpace_11 (by decide) (fun q7 => ?_) (fun q7 => ?_)
  · rw [if_pos q7] at h
    refine x_iconst 0 dX3_hasSpace_18 (by decide) ?_
    cases h
    exact x_iret .boolean rfl rfl dX3_hasSpace_19 hQ
  · rw [if_neg q7] at h
    refine x_iconst 1 dX3_hasSpace_14 (by decide) ?_
    refine x_goto 19 dX3_hasSpace_15 (by decide) ?_
    cases h
    exact x_iret .boolean rfl rfl dX3_hasSpace_19 hQ
theorem s_X3_hasSpace {G : xG} {l : Launch} (hl : l.stackTraces = false) : ∀ n pc env P z, f_X3_hasSpace n pc env P = some z → ∀ L st, lay_X3_hasSpace pc env = some (L, st) → ∀ Q : xR → xH → Prop, Q z.1 z.2 → Wp G l 3 mX3_hasSpace pc L st P Q := by
  intro n
  induction n with
  | zero => intro pc env P z h; cases h
  | succ n ih =>
    intro pc env P z h L st hlay Q hQ
    unfold f_X3_hasSpace at h
    split at h
    · cases hlay
      exact t_X3_hasSpace_0 hl ih h hQ
    · cases h
theorem c_X3_hasSpace {G : xG} {l : Launch} (hl : l.stackTraces = false) {n : Nat} {as : List Value} {P : xH} {z : xR × xH} (h : f_X3_hasSpace n 0 as P = some z) : Ct G l 3 mX3_hasSpace as P (fun r P1 => (r, P1) = z) := by
  cases n with
  | zero => cases h
  | succ n =>
    unfold f_X3_hasSpace at h
    split at h
    · exact Ct.of hl (by decide +kernel) wc_X3_hasSpace (Nat.le_of_ble_eq_true rfl) (t_X3_hasSpace_0 hl (s_X3_hasSpace hl _) h rfl)
    all_goals first | (cases h; done) | (rename_i q9 _; exact absurd q9 (by decide)) | (rename_i q9; exact absurd q9 (by decide)) | contradiction
/-! QuakeNet$Reader.put(I)V -/
def b_X3_put_0 (n : Nat) (rec : Nat → List Value → xH → xO) (a0 : Nat) (a1 : Int32) (P : xH) : xO :=
  rec 3 [.ref a0, .int a1, .int 24] P
def b_X3_put_3 (n : Nat) (rec : Nat → List Value → xH → xO) (a0 : Nat) (a1 : Int32) (a2 : Int32) (P : xH) : xO :=
  if a2 < 0 then
    some (.inl none, P)
  else
    (rI P a0 3 2).bind fun v1 =>
    (rA P a0 3 1).bind fun v3 =>
    (aL P v3).bind fun v5 =>
    if v5 ≤ v1 then
      some (.inl none, P)
    else
      (rA P a0 3 1).bind fun v7 =>
      (rI P a0 3 2).bind fun v9 =>
      (sB P v7 v9 ((Int8.toInt32 (Int32.toInt8 (((Int32.toUInt32 a1 >>> (Int32.toUInt32 a2 &&& Int32.toUInt32 31)).toInt32)))))).bind fun P11 =>
      (rI P11 a0 3 2).bind fun v13 =>
      (wV P11 a0 3 2 (.int ((v13 + 1)))).bind fun P15 =>
      rec 3 [.ref a0, .int a1, .int ((a2 + (-8)))] P15
def lay_X3_put : Nat → List Value → Option (xL × List Value)
  | 0, [a0, a1] => some ([some a0, some a1, none], [])
  | 3, [a0, a1, a2] => some ([some a0, some a1, some a2], [])
  | _, _ => none
def f_X3_put : Nat → Nat → List Value → xH → xO
  | 0 => fun _ _ _ => none
  | n + 1 => fun pc env P => match pc, env with
    | 0, [.ref a0, .int a1] => b_X3_put_0 n (f_X3_put n) a0 a1 P
    | 3, [.ref a0, .int a1, .int a2] => b_X3_put_3 n (f_X3_put n) a0 a1 a2 P
    | _, _ => none
set_option maxHeartbeats 2000000 in
set_option maxRecDepth 20000 in
theorem t_X3_put_0 {G : xG} {l : Launch} (hl : l.stackTraces = false) {n : Nat} {rec : Nat → List Value → xH → xO} (hrec : ∀ pc env P z, rec pc env P = some z → ∀ L st, lay_X3_put pc env = some (L, st) → ∀ Q : xR → xH → Prop, Q z.1 z.2 → Wp G l 3 mX3_put pc L st P Q) {a0 a1} {P : xH} {z : xR × xH} (h : b_X3_put_0 n rec a0 a1 P = some z) {Q : xR → xH → Prop} (hQ : Q z.1 z.2) : Wp G l 3 mX3_put 0 [some (.ref a0), some (.int a1), none] [] P Q := by
  unfold b_X3_put_0 at h
  refine x_bipush 24 dX3_put_0 (by decide) ?_
  refine x_istore_n dX3_put_2 (Nat.le_of_ble_eq_true rfl) ?_
  exact Wp.mask [true, true, true] (hrec 3 _ _ _ h _ _ rfl _ hQ)
set_option maxHeartbeats 2000000 in
set_option maxRecDepth 20000 in
theorem t_X3_put_3 {G : xG} {l : Launch} (hl : l.stackTraces = false) {n : Nat} {rec : Nat → List Value → xH → xO} (hrec : ∀ pc env P z, rec pc env P = some z → ∀ L st, lay_X3_put pc env = some (L, st) → ∀ Q : xR → xH → Prop, Q z.1 z.2 → Wp G l 3 mX3_put pc L st P Q) {a0 a1 a2} {P : xH} {z : xR × xH} (h : b_X3_put_3 n rec a0 a1 a2 P = some z) {Q : xR → xH → Prop} (hQ : Q z.1 z.2) : Wp G l 3 mX3_put 3 [some (.ref a0), some (.int a1), some (.int a2)] [] P Q := by
  unfold b_X3_put_3 at h
  refine x_iload_n dX3_put_3 rfl ?_
  refine x_if_lt 48 dX3_put_4 (by decide) (fun q18 => ?_) (fun q18 => ?_)
  · rw [if_pos q18] at h
    cases h
    exact x_ret rfl dX3_put_48 hQ
  · rw [if_neg q18] at h
    refine x_aload_nr dX3_put_7 rfl ?_
    obtain ⟨v1, e2, h⟩ := Option.bind_eq_some_iff.mp h
    refine k_rI e2 dX3_put_8 f_X3_26 ?_
    refine x_aload_nr dX3_put_11 rfl ?_
    obtain ⟨v3, e4, h⟩ := Option.bind_eq_some_iff.mp h
    refine k_rA e4 dX3_put_12 f_X3_18 ?_
    obtain ⟨v5, e6, h⟩ := Option.bind_eq_some_iff.mp h
    refine k_aL e6 dX3_put_15 ?_
    refine x_icmp_ge 48 dX3_put_16 (by decide) (fun q17 => ?_) (fun q17 => ?_)
    · rw [if_pos q17] at h
      cases h
      exact x_ret rfl dX3_put_48 hQ
    · rw [if_neg q17] at h
      refine x_aload_nr dX3_put_19 rfl ?_
      obtain ⟨v7, e8, h⟩ := Option.bind_eq_some_iff.mp h
      refine k_rA e8 dX3_put_20 f_X3_18 ?_
      refine x_aload_nr dX3_put_23 rfl ?_
      obtain ⟨v9, e10, h⟩ := Option.bind_eq_some_iff.mp h
      refine k_rI e10 dX3_put_24 f_X3_26 ?_
      refine x_iload_n dX3_put_27 rfl ?_
      refine x_iload_n dX3_put_28 rfl ?_
      refine x_iushr dX3_put_29 ?_
      refine x_i2b dX3_put_30 ?_
      obtain ⟨P11, e12, h⟩ := Option.bind_eq_some_iff.mp h
      refine k_sB e12 dX3_put_31 ?_
      refine x_aload_nr dX3_put_32 rfl ?_
      refine x_dup dX3_put_33 rfl ?_
      obtain ⟨v13, e14, h⟩ := Option.bind_eq_some_iff.mp h
      refine k_rI e14 dX3_put_34 f_X3_26 ?_
      refine x_iconst 1 dX3_put_37 (by decide) ?_
      refine x_iadd dX3_put_38 ?_
      obtain ⟨P15, e16, h⟩ := Option.bind_eq_some_iff.mp h
      refine k_wI e16 dX3_put_39 f_X3_26 (Or.inl (by decide)) rfl ?_
      refine x_iinc (a2 + (-8)) dX3_put_42 rfl (by rfl) ?_
      refine x_goto 3 dX3_put_45 (by decide) ?_
      exact Wp.mask [true, true, true] (hrec 3 _ _ _ h _ _ rfl _ hQ)
theorem s_X3_put {G : xG} {l : Launch} (hl : l.stackTraces = false) : ∀ n pc env P z, f_X3_put n pc env P = some z → ∀ L st, lay_X3_put pc env = some (L, st) → ∀ Q : xR → xH → Prop, Q z.1 z.2 → Wp G l 3 mX3_put pc L st P Q := by
  intro n
  induction n with
  | zero => intro pc env P z h; cases h
  | succ n ih =>
    intro pc env P z h L st hlay Q hQ
    unfold f_X3_put at h
    split at h
    · cases hlay
      exact t_X3_put_0 hl ih h hQ
    · cases hlay
      exact t_X3_put_3 hl ih h hQ
    · cases h
theorem c_X3_put {G : xG} {l : Launch} (hl : l.stackTraces = false) {n : Nat} {as : List Value} {P : xH} {z : xR × xH} (h : f_X3_put n 0 as P = some z) : Ct G l 3 mX3_put as P (fun r P1 => (r, P1) = z) := by
  cases n with
  | zero => cases h
  | succ n =>
    unfold f_X3_put at h
    split at h
    · exact Ct.of hl (by decide +kernel) wc_X3_put (Nat.le_of_ble_eq_true rfl) (t_X3_put_0 hl (s_X3_put hl _) h rfl)
    all_goals first | (cases h; done) | (rename_i q9 _; exact absurd q9 (by decide)) | (rename_i q9; exact absurd q9 (by decide)) | contradiction
/-! QuakeNet.feed(IIIII)I -/
def b_X10_feed_0 (n : Nat) (rec : Nat → List Value → xH → xO) (a0 : Nat) (a1 : Int32) (a2 : Int32) (a3 : Int32) (a4 : Int32) (a5 : Int32) (P : xH) : xO :=
  (rA P a0 10 0).bind fun v1 =>
  (kO P v1 3).bind fun _ =>
  (f_X3_hasSpace n 0 [.ref v1, .int 20] P).bind fun r4 => xI r4 fun v6 P3 =>
  if ¬ v6 = 0 then
    (rA P3 a0 10 0).bind fun v8 =>
    (kO P3 v8 3).bind fun _ =>
    (f_X3_put n 0 [.ref v8, .int a1] P3).bind fun r11 => xU r11 fun P10 =>
    (rA P10 a0 10 0).bind fun v14 =>
    (kO P10 v14 3).bind fun _ =>
    (f_X3_put n 0 [.ref v14, .int a2] P10).bind fun r17 => xU r17 fun P16 =>
    (rA P16 a0 10 0).bind fun v20 =>
    (kO P16 v20 3).bind fun _ =>
    (f_X3_put n 0 [.ref v20, .int a3] P16).bind fun r23 => xU r23 fun P22 =>
    (rA P22 a0 10 0).bind fun v26 =>
    (kO P22 v26 3).bind fun _ =>
    (f_X3_put n 0 [.ref v26, .int a4] P22).bind fun r29 => xU r29 fun P28 =>
    (rA P28 a0 10 0).bind fun v32 =>
    (kO P28 v32 3).bind fun _ =>
    (f_X3_put n 0 [.ref v32, .int a5] P28).bind fun r35 => xU r35 fun P34 =>
    (rA P34 a0 10 0).bind fun v38 =>
    (rI P34 v38 3 2).bind fun v40 =>
    some (.inl (some (.int v40)), P34)
  else
    some (.inl (some (.int ((-1)))), P3)
def lay_X10_feed : Nat → List Value → Option (xL × List Value)
  | 0, [a0, a1, a2, a3, a4, a5] => some ([some a0, some a1, some a2, some a3, some a4, some a5], [])
  | _, _ => none
def f_X10_feed : Nat → Nat → List Value → xH → xO
  | 0 => fun _ _ _ => none
  | n + 1 => fun pc env P => match pc, env with
    | 0, [.ref a0, .int a1, .int a2, .int a3, .int a4, .int a5] => b_X10_feed_0 n (f_X10_feed n) a0 a1 a2 a3 a4 a5 P
    | _, _ => none
set_option maxHeartbeats 2000000 in
set_option maxRecDepth 20000 in
theorem t_X10_feed_0 {G : xG} {l : Launch} (hl : l.stackTraces = false) {n : Nat} {rec : Nat → List Value → xH → xO} (hrec : ∀ pc env P z, rec pc env P = some z → ∀ L st, lay_X10_feed pc env = some (L, st) → ∀ Q : xR → xH → Prop, Q z.1 z.2 → Wp G l 4 mX10_feed pc L st P Q) {a0 a1 a2 a3 a4 a5} {P : xH} {z : xR × xH} (h : b_X10_feed_0 n rec a0 a1 a2 a3 a4 a5 P = some z) {Q : xR → xH → Prop} (hQ : Q z.1 z.2) : Wp G l 4 mX10_feed 0 [some (.ref a0), some (.int a1), some (.int a2), some (.int a3), some (.int a4), some (.int a5)] [] P Q := by
  unfold b_X10_feed_0 at h
  refine x_aload_nr dX10_feed_0 rfl ?_
  obtain ⟨v1, e2, h⟩ := Option.bind_eq_some_iff.mp h
  refine k_rA e2 dX10_feed_1 f_X10_10 ?_
  refine x_bipush 20 dX10_feed_4 (by decide) ?_
  obtain ⟨_, e7, h⟩ := Option.bind_eq_some_iff.mp h
  obtain ⟨fse7, e7⟩ := kO_ok e7
  obtain ⟨r4, e5, h⟩ := Option.bind_eq_some_iff.mp h
  replace h := xI_ok h
  obtain ⟨v6, P3, rfl, h⟩ := h
  refine x_callV (c_X3_hasSpace hl e5) dX10_feed_6 cw_X3_hasSpace wl_X10_52 wi_X3_hasSpace wse_X3_hasSpace rfl e7 (by decide) rfl (by omega) (by decide) rfl (Nat.le_of_ble_eq_true rfl) rfl (fun v9 P9 hq9 => ?_) (fun i9 P9 hq9 => by cases hq9)
  cases hq9
  refine x_if_ne 14 dX10_feed_9 (by decide) (fun q42 => ?_) (fun q42 => ?_)
  · rw [if_pos q42] at h
    refine x_aload_nr dX10_feed_14 rfl ?_
    obtain ⟨v8, e9, h⟩ := Option.bind_eq_some_iff.mp h
    refine k_rA e9 dX10_feed_15 f_X10_10 ?_
    refine x_iload_n dX10_feed_18 rfl ?_
    obtain ⟨_, e13, h⟩ := Option.bind_eq_some_iff.mp h
    obtain ⟨fse13, e13⟩ := kO_ok e13
    obtain ⟨r11, e12, h⟩ := Option.bind_eq_some_iff.mp h
    replace h := xU_ok h
    obtain ⟨P10, rfl, h⟩ := h
    refine x_callV (c_X3_put hl e12) dX10_feed_19 cw_X3_put wl_X10_56 wi_X3_put wse_X3_put rfl e13 (by decide) rfl (by omega) (by decide) rfl (Nat.le_of_ble_eq_true rfl) rfl (fun v9 P9 hq9 => ?_) (fun i9 P9 hq9 => by cases hq9)
    cases hq9
    refine x_aload_nr dX10_feed_22 rfl ?_
    obtain ⟨v14, e15, h⟩ := Option.bind_eq_some_iff.mp h
    refine k_rA e15 dX10_feed_23 f_X10_10 ?_
    refine x_iload_n dX10_feed_26 rfl ?_
    obtain ⟨_, e19, h⟩ := Option.bind_eq_some_iff.mp h
    obtain ⟨fse19, e19⟩ := kO_ok e19
    obtain ⟨r17, e18, h⟩ := Option.bind_eq_some_iff.mp h
    replace h := xU_ok h
    obtain ⟨P16, rfl, h⟩ := h
    refine x_callV (c_X3_put hl e18) dX10_feed_27 cw_X3_put wl_X10_56 wi_X3_put wse_X3_put rfl e19 (by decide) rfl (by omega) (by decide) rfl (Nat.le_of_ble_eq_true rfl) rfl (fun v9 P9 hq9 => ?_) (fun i9 P9 hq9 => by cases hq9)
    cases hq9
    refine x_aload_nr dX10_feed_30 rfl ?_
    obtain ⟨v20, e21, h⟩ := Option.bind_eq_some_iff.mp h
    refine k_rA e21 dX10_feed_31 f_X10_10 ?_
    refine x_iload_n dX10_feed_34 rfl ?_
    obtain ⟨_, e25, h⟩ := Option.bind_eq_some_iff.mp h
    obtain ⟨fse25, e25⟩ := kO_ok e25
    obtain ⟨r23, e24, h⟩ := Option.bind_eq_some_iff.mp h
    replace h := xU_ok h
    obtain ⟨P22, rfl, h⟩ := h
    refine x_callV (c_X3_put hl e24) dX10_feed_35 cw_X3_put wl_X10_56 wi_X3_put wse_X3_put rfl e25 (by decide) rfl (by omega) (by decide) rfl (Nat.le_of_ble_eq_true rfl) rfl (fun v9 P9 hq9 => ?_) (fun i9 P9 hq9 => by cases hq9)
    cases hq9
    refine x_aload_nr dX10_feed_38 rfl ?_
    obtain ⟨v26, e27, h⟩ := Option.bind_eq_some_iff.mp h
    refine k_rA e27 dX10_feed_39 f_X10_10 ?_
    refine x_iload dX10_feed_42 rfl ?_
    obtain ⟨_, e31, h⟩ := Option.bind_eq_some_iff.mp h
    obtain ⟨fse31, e31⟩ := kO_ok e31
    obtain ⟨r29, e30, h⟩ := Option.bind_eq_some_iff.mp h
    replace h := xU_ok h
    obtain ⟨P28, rfl, h⟩ := h
    refine x_callV (c_X3_put hl e30) dX10_feed_44 cw_X3_put wl_X10_56 wi_X3_put wse_X3_put rfl e31 (by decide) rfl (by omega) (by decide) rfl (Nat.le_of_ble_eq_true rfl) rfl (fun v9 P9 hq9 => ?_) (fun i9 P9 hq9 => by cases hq9)
    cases hq9
    refine x_aload_nr dX10_feed_47 rfl ?_
    obtain ⟨v32, e33, h⟩ := Option.bind_eq_some_iff.mp h
    refine k_rA e33 dX10_feed_48 f_X10_10 ?_
    refine x_iload dX10_feed_51 rfl ?_
    obtain ⟨_, e37, h⟩ := Option.bind_eq_some_iff.mp h
    obtain ⟨fse37, e37⟩ := kO_ok e37
    obtain ⟨r35, e36, h⟩ := Option.bind_eq_some_iff.mp h
    replace h := xU_ok h
    obtain ⟨P34, rfl, h⟩ := h
    refine x_callV (c_X3_put hl e36) dX10_feed_53 cw_X3_put wl_X10_56 wi_X3_put wse_X3_put rfl e37 (by decide) rfl (by omega) (by decide) rfl (Nat.le_of_ble_eq_true rfl) rfl (fun v9 P9 hq9 => ?_) (fun i9 P9 hq9 => by cases hq9)
    cases hq9
    refine x_aload_nr dX10_feed_56 rfl ?_
    obtain ⟨v38, e39, h⟩ := Option.bind_eq_some_iff.mp h
    refine k_rA e39 dX10_feed_57 f_X10_10 ?_
    obtain ⟨v40, e41, h⟩ := Option.bind_eq_some_iff.mp h
    refine k_rI e41 dX10_feed_60 f_X10_60 ?_
    cases h
    exact x_iret .int rfl rfl dX10_feed_63 hQ
  · rw [if_neg (fun z9 => z9 q42)] at h
    refine x_iconst (-1) dX10_feed_12 (by decide) ?_
    cases h
    exact x_iret .int rfl rfl dX10_feed_13 hQ
theorem s_X10_feed {G : xG} {l : Launch} (hl : l.stackTraces = false) : ∀ n pc env P z, f_X10_feed n pc env P = some z → ∀ L st, lay_X10_feed pc env = some (L, st) → ∀ Q : xR → xH → Prop, Q z.1 z.2 → Wp G l 4 mX10_feed pc L st P Q := by
  intro n
  induction n with
  | zero => intro pc env P z h; cases h
  | succ n ih =>
    intro pc env P z h L st hlay Q hQ
    unfold f_X10_feed at h
    split at h
    · cases hlay
      exact t_X10_feed_0 hl ih h hQ
    · cases h
theorem c_X10_feed {G : xG} {l : Launch} (hl : l.stackTraces = false) {n : Nat} {as : List Value} {P : xH} {z : xR × xH} (h : f_X10_feed n 0 as P = some z) : Ct G l 4 mX10_feed as P (fun r P1 => (r, P1) = z) := by
  cases n with
  | zero => cases h
  | succ n =>
    unfold f_X10_feed at h
    split at h
    · exact Ct.of hl (by decide +kernel) wc_X10_feed (Nat.le_of_ble_eq_true rfl) (t_X10_feed_0 hl (s_X10_feed hl _) h rfl)
    all_goals first | (cases h; done) | (rename_i q9 _; exact absurd q9 (by decide)) | (rename_i q9; exact absurd q9 (by decide)) | contradiction
/-! QuakeNet.end(I)Z -/
def b_X10_end_0 (n : Nat) (rec : Nat → List Value → xH → xO) (a0 : Nat) (a1 : Int32) (P : xH) : xO :=
  if a1 < 0 then
    some (.inl (some (.int 0)), P)
  else
    (rA P a0 10 0).bind fun v1 =>
    (rI P v1 3 2).bind fun v3 =>
    if a1 ≤ v3 then
      (rA P a0 10 0).bind fun v5 =>
      (wV P v5 3 2 (.int a1)).bind fun P7 =>
      some (.inl (some (.int 1)), P7)
    else
      some (.inl (some (.int 0)), P)
def lay_X10_end : Nat → List Value → Option (xL × List Value)
  | 0, [a0, a1] => some ([some a0, some a1], [])
  | _, _ => none
def f_X10_end : Nat → Nat → List Value → xH → xO
  | 0 => fun _ _ _ => none
  | n + 1 => fun pc env P => match pc, env with
    | 0, [.ref a0, .int a1] => b_X10_end_0 n (f_X10_end n) a0 a1 P
    | _, _ => none
set_option maxHeartbeats 2000000 in
set_option maxRecDepth 20000 in
theorem t_X10_end_0 {G : xG} {l : Launch} (hl : l.stackTraces = false) {n : Nat} {rec : Nat → List Value → xH → xO} (hrec : ∀ pc env P z, rec pc env P = some z → ∀ L st, lay_X10_end pc env = some (L, st) → ∀ Q : xR → xH → Prop, Q z.1 z.2 → Wp G l 3 mX10_end pc L st P Q) {a0 a1} {P : xH} {z : xR × xH} (h : b_X10_end_0 n rec a0 a1 P = some z) {Q : xR → xH → Prop} (hQ : Q z.1 z.2) : Wp G l 3 mX10_end 0 [some (.ref a0), some (.int a1)] [] P Q := by
  unfold b_X10_end_0 at h
  refine x_iload_n dX10_end_0 rfl ?_
  refine x_if_lt 15 dX10_end_1 (by decide) (fun q10 => ?_) (fun q10 => ?_)
  · rw [if_pos q10] at h
    refine x_iconst 0 dX10_end_15 (by decide) ?_
    cases h
    exact x_iret .boolean rfl rfl dX10_end_16 hQ
  · rw [if_neg q10] at h
    refine x_iload_n dX10_end_4 rfl ?_
    refine x_aload_nr dX10_end_5 rfl ?_
    obtain ⟨v1, e2, h⟩ := Option.bind_eq_some_iff.mp h
    refine k_rA e2 dX10_end_6 f_X10_10 ?_
    obtain ⟨v3, e4, h⟩ := Option.bind_eq_some_iff.mp h
    refine k_rI e4 dX10_end_9 f_X10_60 ?_
    refine x_icmp_le 17 dX10_end_12 (by decide) (fun q9 => ?_) (fun q9 => ?_)
    · rw [if_pos q9] at h
      refine x_aload_nr dX10_end_17 rfl ?_
      obtain ⟨v5, e6, h⟩ := Option.bind_eq_some_iff.mp h
      refine k_rA e6 dX10_end_18 f_X10_10 ?_
      refine x_iload_n dX10_end_21 rfl ?_
      obtain ⟨P7, e8, h⟩ := Option.bind_eq_some_iff.mp h
      refine k_wI e8 dX10_end_22 f_X10_60 (Or.inl (by decide)) rfl ?_
      refine x_iconst 1 dX10_end_25 (by decide) ?_
      cases h
      exact x_iret .boolean rfl rfl dX10_end_26 hQ
    · rw [if_neg q9] at h
      refine x_iconst 0 dX10_end_15 (by decide) ?_
      cases h
      exact x_iret .boolean rfl rfl dX10_end_16 hQ
theorem s_X10_end {G : xG} {l : Launch} (hl : l.stackTraces = false) : ∀ n pc env P z, f_X10_end n pc env P = some z → ∀ L st, lay_X10_end pc env = some (L, st) → ∀ Q : xR → xH → Prop, Q z.1 z.2 → Wp G l 3 mX10_end pc L st P Q := by
  intro n
  induction n with
  | zero => intro pc env P z h; cases h
  | succ n ih =>
    intro pc env P z h L st hlay Q hQ
    unfold f_X10_end at h
    split at h
    · cases hlay
      exact t_X10_end_0 hl ih h hQ
    · cases h
theorem c_X10_end {G : xG} {l : Launch} (hl : l.stackTraces = false) {n : Nat} {as : List Value} {P : xH} {z : xR × xH} (h : f_X10_end n 0 as P = some z) : Ct G l 3 mX10_end as P (fun r P1 => (r, P1) = z) := by
  cases n with
  | zero => cases h
  | succ n =>
    unfold f_X10_end at h
    split at h
    · exact Ct.of hl (by decide +kernel) wc_X10_end (Nat.le_of_ble_eq_true rfl) (t_X10_end_0 hl (s_X10_end hl _) h rfl)
    all_goals first | (cases h; done) | (rename_i q9 _; exact absurd q9 (by decide)) | (rename_i q9; exact absurd q9 (by decide)) | contradiction
/-! QuakeNet.fault()I -/
def b_X10_fault_0 (n : Nat) (rec : Nat → List Value → xH → xO) (a0 : Nat) (P : xH) : xO :=
  (rA P a0 10 0).bind fun v1 =>
  (rI P v1 3 3).bind fun v3 =>
  some (.inl (some (.int v3)), P)
def lay_X10_fault : Nat → List Value → Option (xL × List Value)
  | 0, [a0] => some ([some a0], [])
  | _, _ => none
def f_X10_fault : Nat → Nat → List Value → xH → xO
  | 0 => fun _ _ _ => none
  | n + 1 => fun pc env P => match pc, env with
    | 0, [.ref a0] => b_X10_fault_0 n (f_X10_fault n) a0 P
    | _, _ => none
set_option maxHeartbeats 2000000 in
set_option maxRecDepth 20000 in
theorem t_X10_fault_0 {G : xG} {l : Launch} (hl : l.stackTraces = false) {n : Nat} {rec : Nat → List Value → xH → xO} (hrec : ∀ pc env P z, rec pc env P = some z → ∀ L st, lay_X10_fault pc env = some (L, st) → ∀ Q : xR → xH → Prop, Q z.1 z.2 → Wp G l 3 mX10_fault pc L st P Q) {a0} {P : xH} {z : xR × xH} (h : b_X10_fault_0 n rec a0 P = some z) {Q : xR → xH → Prop} (hQ : Q z.1 z.2) : Wp G l 3 mX10_fault 0 [some (.ref a0)] [] P Q := by
  unfold b_X10_fault_0 at h
  refine x_aload_nr dX10_fault_0 rfl ?_
  obtain ⟨v1, e2, h⟩ := Option.bind_eq_some_iff.mp h
  refine k_rA e2 dX10_fault_1 f_X10_10 ?_
  obtain ⟨v3, e4, h⟩ := Option.bind_eq_some_iff.mp h
  refine k_rI e4 dX10_fault_4 f_X10_123 ?_
  cases h
  exact x_iret .int rfl rfl dX10_fault_7 hQ
theorem s_X10_fault {G : xG} {l : Launch} (hl : l.stackTraces = false) : ∀ n pc env P z, f_X10_fault n pc env P = some z → ∀ L st, lay_X10_fault pc env = some (L, st) → ∀ Q : xR → xH → Prop, Q z.1 z.2 → Wp G l 3 mX10_fault pc L st P Q := by
  intro n
  induction n with
  | zero => intro pc env P z h; cases h
  | succ n ih =>
    intro pc env P z h L st hlay Q hQ
    unfold f_X10_fault at h
    split at h
    · cases hlay
      exact t_X10_fault_0 hl ih h hQ
    · cases h
theorem c_X10_fault {G : xG} {l : Launch} (hl : l.stackTraces = false) {n : Nat} {as : List Value} {P : xH} {z : xR × xH} (h : f_X10_fault n 0 as P = some z) : Ct G l 3 mX10_fault as P (fun r P1 => (r, P1) = z) := by
  cases n with
  | zero => cases h
  | succ n =>
    unfold f_X10_fault at h
    split at h
    · exact Ct.of hl (by decide +kernel) wc_X10_fault (Nat.le_of_ble_eq_true rfl) (t_X10_fault_0 hl (s_X10_fault hl _) h rfl)
    all_goals first | (cases h; done) | (rename_i q9 _; exact absurd q9 (by decide)) | (rename_i q9; exact absurd q9 (by decide)) | contradiction
/-! QuakeNet$Rows.firstTorn()I -/
def b_X4_firstTorn_0 (n : Nat) (rec : Nat → List Value → xH → xO) (a0 : Nat) (P : xH) : xO :=
  rec 2 [.ref a0, .int 0] P
def b_X4_firstTorn_2 (n : Nat) (rec : Nat → List Value → xH → xO) (a0 : Nat) (a1 : Int32) (P : xH) : xO :=
  (rI P a0 4 2).bind fun v1 =>
  if v1 ≤ a1 then
    some (.inl (some (.int ((-1)))), P)
  else
    (rA P a0 4 0).bind fun v3 =>
    (aI P v3 a1).bind fun v5 =>
    (rA P a0 4 1).bind fun v7 =>
    (aI P v7 a1).bind fun v9 =>
    if v5 = v9 then
      rec 2 [.ref a0, .int ((a1 + 1))] P
    else
      some (.inl (some (.int a1)), P)
def lay_X4_firstTorn : Nat → List Value → Option (xL × List Value)
  | 0, [a0] => some ([some a0, none], [])
  | 2, [a0, a1] => some ([some a0, some a1], [])
  | _, _ => none
def f_X4_firstTorn : Nat → Nat → List Value → xH → xO
  | 0 => fun _ _ _ => none
  | n + 1 => fun pc env P => match pc, env with
    | 0, [.ref a0] => b_X4_firstTorn_0 n (f_X4_firstTorn n) a0 P
    | 2, [.ref a0, .int a1] => b_X4_firstTorn_2 n (f_X4_firstTorn n) a0 a1 P
    | _, _ => none
set_option maxHeartbeats 2000000 in
set_option maxRecDepth 20000 in
theorem t_X4_firstTorn_0 {G : xG} {l : Launch} (hl : l.stackTraces = false) {n : Nat} {rec : Nat → List Value → xH → xO} (hrec : ∀ pc env P z, rec pc env P = some z → ∀ L st, lay_X4_firstTorn pc env = some (L, st) → ∀ Q : xR → xH → Prop, Q z.1 z.2 → Wp G l 3 mX4_firstTorn pc L st P Q) {a0} {P : xH} {z : xR × xH} (h : b_X4_firstTorn_0 n rec a0 P = some z) {Q : xR → xH → Prop} (hQ : Q z.1 z.2) : Wp G l 3 mX4_firstTorn 0 [some (.ref a0), none] [] P Q := by
  unfold b_X4_firstTorn_0 at h
  refine x_iconst 0 dX4_firstTorn_0 (by decide) ?_
  refine x_istore_n dX4_firstTorn_1 (Nat.le_of_ble_eq_true rfl) ?_
  exact Wp.mask [true, true] (hrec 2 _ _ _ h _ _ rfl _ hQ)
set_option maxHeartbeats 2000000 in
set_option maxRecDepth 20000 in
theorem t_X4_firstTorn_2 {G : xG} {l : Launch} (hl : l.stackTraces = false) {n : Nat} {rec : Nat → List Value → xH → xO} (hrec : ∀ pc env P z, rec pc env P = some z → ∀ L st, lay_X4_firstTorn pc env = some (L, st) → ∀ Q : xR → xH → Prop, Q z.1 z.2 → Wp G l 3 mX4_firstTorn pc L st P Q) {a0 a1} {P : xH} {z : xR × xH} (h : b_X4_firstTorn_2 n rec a0 a1 P = some z) {Q : xR → xH → Prop} (hQ : Q z.1 z.2) : Wp G l 3 mX4_firstTorn 2 [some (.ref a0), some (.int a1)] [] P Q := by
  unfold b_X4_firstTorn_2 at h
  refine x_iload_n dX4_firstTorn_2 rfl ?_
  refine x_aload_nr dX4_firstTorn_3 rfl ?_
  obtain ⟨v1, e2, h⟩ := Option.bind_eq_some_iff.mp h
  refine k_rI e2 dX4_firstTorn_4 f_X4_22 ?_
  refine x_icmp_ge 33 dX4_firstTorn_7 (by decide) (fun q12 => ?_) (fun q12 => ?_)
  · rw [if_pos q12] at h
    refine x_iconst (-1) dX4_firstTorn_33 (by decide) ?_
    cases h
    exact x_iret .int rfl rfl dX4_firstTorn_34 hQ
  · rw [if_neg q12] at h
    refine x_aload_nr dX4_firstTorn_10 rfl ?_
    obtain ⟨v3, e4, h⟩ := Option.bind_eq_some_iff.mp h
    refine k_rA e4 dX4_firstTorn_11 f_X4_11 ?_
    refine x_iload_n dX4_firstTorn_14 rfl ?_
    obtain ⟨v5, e6, h⟩ := Option.bind_eq_some_iff.mp h
    refine k_aI e6 dX4_firstTorn_15 ?_
    refine x_aload_nr dX4_firstTorn_16 rfl ?_
    obtain ⟨v7, e8, h⟩ := Option.bind_eq_some_iff.mp h
    refine k_rA e8 dX4_firstTorn_17 f_X4_15 ?_
    refine x_iload_n dX4_firstTorn_20 rfl ?_
    obtain ⟨v9, e10, h⟩ := Option.bind_eq_some_iff.mp h
    refine k_aI e10 dX4_firstTorn_21 ?_
    refine x_icmp_eq 27 dX4_firstTorn_22 (by decide) (fun q11 => ?_) (fun q11 => ?_)
    · rw [if_pos q11] at h
      refine x_iinc (a1 + 1) dX4_firstTorn_27 rfl (by rfl) ?_
      refine x_goto 2 dX4_firstTorn_30 (by decide) ?_
      exact Wp.mask [true, true] (hrec 2 _ _ _ h _ _ rfl _ hQ)
    · rw [if_neg q11] at h
      refine x_iload_n dX4_firstTorn_25 rfl ?_
      cases h
      exact x_iret .int rfl rfl dX4_firstTorn_26 hQ
theorem s_X4_firstTorn {G : xG} {l : Launch} (hl : l.stackTraces = false) : ∀ n pc env P z, f_X4_firstTorn n pc env P = some z → ∀ L st, lay_X4_firstTorn pc env = some (L, st) → ∀ Q : xR → xH → Prop, Q z.1 z.2 → Wp G l 3 mX4_firstTorn pc L st P Q := by
  intro n
  induction n with
  | zero => intro pc env P z h; cases h
  | succ n ih =>
    intro pc env P z h L st hlay Q hQ
    unfold f_X4_firstTorn at h
    split at h
    · cases hlay
      exact t_X4_firstTorn_0 hl ih h hQ
    · cases hlay
      exact t_X4_firstTorn_2 hl ih h hQ
    · cases h
theorem c_X4_firstTorn {G : xG} {l : Launch} (hl : l.stackTraces = false) {n : Nat} {as : List Value} {P : xH} {z : xR × xH} (h : f_X4_firstTorn n 0 as P = some z) : Ct G l 3 mX4_firstTorn as P (fun r P1 => (r, P1) = z) := by
  cases n with
  | zero => cases h
  | succ n =>
    unfold f_X4_firstTorn at h
    split at h
    · exact Ct.of hl (by decide +kernel) wc_X4_firstTorn (Nat.le_of_ble_eq_true rfl) (t_X4_firstTorn_0 hl (s_X4_firstTorn hl _) h rfl)
    all_goals first | (cases h; done) | (rename_i q9 _; exact absurd q9 (by decide)) | (rename_i q9; exact absurd q9 (by decide)) | contradiction
/-! QuakeNet.check()I -/
def b_X10_check_0 (n : Nat) (rec : Nat → List Value → xH → xO) (a0 : Nat) (P : xH) : xO :=
  (rA P a0 10 1).bind fun v1 =>
  (rA P v1 7 5).bind fun v3 =>
  (kO P v3 4).bind fun _ =>
  (f_X4_firstTorn n 0 [.ref v3] P).bind fun r6 => xI r6 fun v8 P5 =>
  some (.inl (some (.int v8)), P5)
def lay_X10_check : Nat → List Value → Option (xL × List Value)
  | 0, [a0] => some ([some a0], [])
  | _, _ => none
def f_X10_check : Nat → Nat → List Value → xH → xO
  | 0 => fun _ _ _ => none
  | n + 1 => fun pc env P => match pc, env with
    | 0, [.ref a0] => b_X10_check_0 n (f_X10_check n) a0 P
    | _, _ => none
set_option maxHeartbeats 2000000 in
set_option maxRecDepth 20000 in
theorem t_X10_check_0 {G : xG} {l : Launch} (hl : l.stackTraces = false) {n : Nat} {rec : Nat → List Value → xH → xO} (hrec : ∀ pc env P z, rec pc env P = some z → ∀ L st, lay_X10_check pc env = some (L, st) → ∀ Q : xR → xH → Prop, Q z.1 z.2 → Wp G l 4 mX10_check pc L st P Q) {a0} {P : xH} {z : xR × xH} (h : b_X10_check_0 n rec a0 P = some z) {Q : xR → xH → Prop} (hQ : Q z.1 z.2) : Wp G l 4 mX10_check 0 [some (.ref a0)] [] P Q := by
  unfold b_X10_check_0 at h
  refine x_aload_nr dX10_check_0 rfl ?_
  obtain ⟨v1, e2, h⟩ := Option.bind_eq_some_iff.mp h
  refine k_rA e2 dX10_check_1 f_X10_19 ?_
  obtain ⟨v3, e4, h⟩ := Option.bind_eq_some_iff.mp h
  refine k_rA e4 dX10_check_4 f_X10_316 ?_
  obtain ⟨_, e9, h⟩ := Option.bind_eq_some_iff.mp h
  obtain ⟨fse9, e9⟩ := kO_ok e9
  obtain ⟨r6, e7, h⟩ := Option.bind_eq_some_iff.mp h
  replace h := xI_ok h
  obtain ⟨v8, P5, rfl, h⟩ := h
  refine x_callV (c_X4_firstTorn hl e7) dX10_check_7 cw_X4_firstTorn wl_X10_326 wi_X4_firstTorn wse_X4_firstTorn rfl e9 (by decide) rfl (by omega) (by decide) rfl (Nat.le_of_ble_eq_true rfl) rfl (fun v9 P9 hq9 => ?_) (fun i9 P9 hq9 => by cases hq9)
  cases hq9
  cases h
  exact x_iret .int rfl rfl dX10_check_10 hQ
theorem s_X10_check {G : xG} {l : Launch} (hl : l.stackTraces = false) : ∀ n pc env P z, f_X10_check n pc env P = some z → ∀ L st, lay_X10_check pc env = some (L, st) → ∀ Q : xR → xH → Prop, Q z.1 z.2 → Wp G l 4 mX10_check pc L st P Q := by
  intro n
  induction n with
  | zero => intro pc env P z h; cases h
  | succ n ih =>
    intro pc env P z h L st hlay Q hQ
    unfold f_X10_check at h
    split at h
    · cases hlay
      exact t_X10_check_0 hl ih h hQ
    · cases h
theorem c_X10_check {G : xG} {l : Launch} (hl : l.stackTraces = false) {n : Nat} {as : List Value} {P : xH} {z : xR × xH} (h : f_X10_check n 0 as P = some z) : Ct G l 4 mX10_check as P (fun r P1 => (r, P1) = z) := by
  cases n with
  | zero => cases h
  | succ n =>
    unfold f_X10_check at h
    split at h
    · exact Ct.of hl (by decide +kernel) wc_X10_check (Nat.le_of_ble_eq_true rfl) (t_X10_check_0 hl (s_X10_check hl _) h rfl)
    all_goals first | (cases h; done) | (rename_i q9 _; exact absurd q9 (by decide)) | (rename_i q9; exact absurd q9 (by decide)) | contradiction
/-! QuakeNet.copyRow([I[I)V -/
def b_X10_copyRow_0 (n : Nat) (rec : Nat → List Value → xH → xO) (a0 : Nat) (a1 : Nat) (P : xH) : xO :=
  (aL P a0).bind fun v1 =>
  (aL P a1).bind fun v3 =>
  (cpI P a0 0 a1 0 ((mMin v1 v3))).bind fun P5 =>
  some (.inl none, P5)
def lay_X10_copyRow : Nat → List Value → Option (xL × List Value)
  | 0, [a0, a1] => some ([some a0, some a1], [])
  | _, _ => none
def f_X10_copyRow : Nat → Nat → List Value → xH → xO
  | 0 => fun _ _ _ => none
  | n + 1 => fun pc env P => match pc, env with
    | 0, [.ref a0, .ref a1] => b_X10_copyRow_0 n (f_X10_copyRow n) a0 a1 P
    | _, _ => none
set_option maxHeartbeats 2000000 in
set_option maxRecDepth 20000 in
theorem t_X10_copyRow_0 {G : xG} {l : Launch} (hl : l.stackTraces = false) {n : Nat} {rec : Nat → List Value → xH → xO} (hrec : ∀ pc env P z, rec pc env P = some z → ∀ L st, lay_X10_copyRow pc env = some (L, st) → ∀ Q : xR → xH → Prop, Q z.1 z.2 → Wp G l 7 mX10_copyRow pc L st P Q) {a0 a1} {P : xH} {z : xR × xH} (h : b_X10_copyRow_0 n rec a0 a1 P = some z) {Q : xR → xH → Prop} (hQ : Q z.1 z.2) : Wp G l 7 mX10_copyRow 0 [some (.ref a0), some (.ref a1)] [] P Q := by
  unfold b_X10_copyRow_0 at h
  refine x_aload_nr dX10_copyRow_0 rfl ?_
  refine x_iconst 0 dX10_copyRow_1 (by decide) ?_
  refine x_aload_nr dX10_copyRow_2 rfl ?_
  refine x_iconst 0 dX10_copyRow_3 (by decide) ?_
  refine x_aload_nr dX10_copyRow_4 rfl ?_
  obtain ⟨v1, e2, h⟩ := Option.bind_eq_some_iff.mp h
  refine k_aL e2 dX10_copyRow_5 ?_
  refine x_aload_nr dX10_copyRow_6 rfl ?_
  obtain ⟨v3, e4, h⟩ := Option.bind_eq_some_iff.mp h
  refine k_aL e4 dX10_copyRow_7 ?_
  refine x_mmin dX10_copyRow_8 wl_X10_295 (Nat.le_of_ble_eq_true rfl) (by omega) ?_
  obtain ⟨P5, e6, h⟩ := Option.bind_eq_some_iff.mp h
  refine k_cpI e6 dX10_copyRow_11 wl_X10_381 (Nat.le_of_ble_eq_true rfl) (by omega) ?_
  cases h
  exact x_ret rfl dX10_copyRow_14 hQ
theorem s_X10_copyRow {G : xG} {l : Launch} (hl : l.stackTraces = false) : ∀ n pc env P z, f_X10_copyRow n pc env P = some z → ∀ L st, lay_X10_copyRow pc env = some (L, st) → ∀ Q : xR → xH → Prop, Q z.1 z.2 → Wp G l 7 mX10_copyRow pc L st P Q := by
  intro n
  induction n with
  | zero => intro pc env P z h; cases h
  | succ n ih =>
    intro pc env P z h L st hlay Q hQ
    unfold f_X10_copyRow at h
    split at h
    · cases hlay
      exact t_X10_copyRow_0 hl ih h hQ
    · cases h
theorem c_X10_copyRow {G : xG} {l : Launch} (hl : l.stackTraces = false) {n : Nat} {as : List Value} {P : xH} {z : xR × xH} (h : f_X10_copyRow n 0 as P = some z) : Ct G l 7 mX10_copyRow as P (fun r P1 => (r, P1) = z) := by
  cases n with
  | zero => cases h
  | succ n =>
    unfold f_X10_copyRow at h
    split at h
    · exact Ct.of hl (by decide +kernel) wc_X10_copyRow (Nat.le_of_ble_eq_true rfl) (t_X10_copyRow_0 hl (s_X10_copyRow hl _) h rfl)
    all_goals first | (cases h; done) | (rename_i q9 _; exact absurd q9 (by decide)) | (rename_i q9; exact absurd q9 (by decide)) | contradiction
/-! QuakeNet.copyRows([[I[[I)V -/
def b_X10_copyRows_0 (n : Nat) (rec : Nat → List Value → xH → xO) (a0 : Nat) (a1 : Nat) (P : xH) : xO :=
  rec 2 [.ref a0, .ref a1, .int 0] P
def b_X10_copyRows_2 (n : Nat) (rec : Nat → List Value → xH → xO) (a0 : Nat) (a1 : Nat) (a2 : Int32) (P : xH) : xO :=
  (aL P a0).bind fun v1 =>
  if v1 ≤ a2 then
    some (.inl none, P)
  else
    (aL P a1).bind fun v3 =>
    if v3 ≤ a2 then
      some (.inl none, P)
    else
      (aA P a0 a2).bind fun v5 =>
      (aA P a1 a2).bind fun v7 =>
      (f_X10_copyRow n 0 [.ref v5, .ref v7] P).bind fun r10 => xU r10 fun P9 =>
      rec 2 [.ref a0, .ref a1, .int ((a2 + 1))] P9
def lay_X10_copyRows : Nat → List Value → Option (xL × List Value)
  | 0, [a0, a1] => some ([some a0, some a1, none], [])
  | 2, [a0, a1, a2] => some ([some a0, some a1, some a2], [])
  | _, _ => none
def f_X10_copyRows : Nat → Nat → List Value → xH → xO
  | 0 => fun _ _ _ => none
  | n + 1 => fun pc env P => match pc, env with
    | 0, [.ref a0, .ref a1] => b_X10_copyRows_0 n (f_X10_copyRows n) a0 a1 P
    | 2, [.ref a0, .ref a1, .int a2] => b_X10_copyRows_2 n (f_X10_copyRows n) a0 a1 a2 P
    | _, _ => none
set_option maxHeartbeats 2000000 in
set_option maxRecDepth 20000 in
theorem t_X10_copyRows_0 {G : xG} {l : Launch} (hl : l.stackTraces = false) {n : Nat} {rec : Nat → List Value → xH → xO} (hrec : ∀ pc env P z, rec pc env P = some z → ∀ L st, lay_X10_copyRows pc env = some (L, st) → ∀ Q : xR → xH → Prop, Q z.1 z.2 → Wp G l 8 mX10_copyRows pc L st P Q) {a0 a1} {P : xH} {z : xR × xH} (h : b_X10_copyRows_0 n rec a0 a1 P = some z) {Q : xR → xH → Prop} (hQ : Q z.1 z.2) : Wp G l 8 mX10_copyRows 0 [some (.ref a0), some (.ref a1), none] [] P Q := by
  unfold b_X10_copyRows_0 at h
  refine x_iconst 0 dX10_copyRows_0 (by decide) ?_
  refine x_istore_n dX10_copyRows_1 (Nat.le_of_ble_eq_true rfl) ?_
  exact Wp.mask [true, true, true] (hrec 2 _ _ _ h _ _ rfl _ hQ)
set_option maxHeartbeats 2000000 in
set_option maxRecDepth 20000 in
theorem t_X10_copyRows_2 {G : xG} {l : Launch} (hl : l.stackTraces = false) {n : Nat} {rec : Nat → List Value → xH → xO} (hrec : ∀ pc env P z, rec pc env P = some z → ∀ L st, lay_X10_copyRows pc env = some (L, st) → ∀ Q : xR → xH → Prop, Q z.1 z.2 → Wp G l 8 mX10_copyRows pc L st P Q) {a0 a1 a2} {P : xH} {z : xR × xH} (h : b_X10_copyRows_2 n rec a0 a1 a2 P = some z) {Q : xR → xH → Prop} (hQ : Q z.1 z.2) : Wp G l 8 mX10_copyRows 2 [some (.ref a0), some (.ref a1), some (.int a2)] [] P Q := by
  unfold b_X10_copyRows_2 at h
  refine x_iload_n dX10_copyRows_2 rfl ?_
  refine x_aload_nr dX10_copyRows_3 rfl ?_
  obtain ⟨v1, e2, h⟩ := Option.bind_eq_some_iff.mp h
  refine k_aL e2 dX10_copyRows_4 ?_
  refine x_icmp_ge 29 dX10_copyRows_5 (by decide) (fun q13 => ?_) (fun q13 => ?_)
  · rw [if_pos q13] at h
    cases h
    exact x_ret rfl dX10_copyRows_29 hQ
  · rw [if_neg q13] at h
    refine x_iload_n dX10_copyRows_8 rfl ?_
    refine x_aload_nr dX10_copyRows_9 rfl ?_
    obtain ⟨v3, e4, h⟩ := Option.bind_eq_some_iff.mp h
    refine k_aL e4 dX10_copyRows_10 ?_
    refine x_icmp_ge 29 dX10_copyRows_11 (by decide) (fun q12 => ?_) (fun q12 => ?_)
    · rw [if_pos q12] at h
      cases h
      exact x_ret rfl dX10_copyRows_29 hQ
    · rw [if_neg q12] at h
      refine x_aload_nr dX10_copyRows_14 rfl ?_
      refine x_iload_n dX10_copyRows_15 rfl ?_
      obtain ⟨v5, e6, h⟩ := Option.bind_eq_some_iff.mp h
      refine k_aA e6 dX10_copyRows_16 ?_
      refine x_aload_nr dX10_copyRows_17 rfl ?_
      refine x_iload_n dX10_copyRows_18 rfl ?_
      obtain ⟨v7, e8, h⟩ := Option.bind_eq_some_iff.mp h
      refine k_aA e8 dX10_copyRows_19 ?_
      obtain ⟨r10, e11, h⟩ := Option.bind_eq_some_iff.mp h
      replace h := xU_ok h
      obtain ⟨P9, rfl, h⟩ := h
      refine x_callS (c_X10_copyRow hl e11) dX10_copyRows_20 cw_X10_copyRow wl_X10_387 ws_X10_copyRow rfl (by omega) (by decide) rfl (Nat.le_of_ble_eq_true rfl) rfl (fun v9 P9 hq9 => ?_) (fun i9 P9 hq9 => by cases hq9)
      cases hq9
      refine x_iinc (a2 + 1) dX10_copyRows_23 rfl (by rfl) ?_
      refine x_goto 2 dX10_copyRows_26 (by decide) ?_
      exact Wp.mask [true, true, true] (hrec 2 _ _ _ h _ _ rfl _ hQ)
theorem s_X10_copyRows {G : xG} {l : Launch} (hl : l.stackTraces = false) : ∀ n pc env P z, f_X10_copyRows n pc env P = some z → ∀ L st, lay_X10_copyRows pc env = some (L, st) → ∀ Q : xR → xH → Prop, Q z.1 z.2 → Wp G l 8 mX10_copyRows pc L st P Q := by
  intro n
  induction n with
  | zero => intro pc env P z h; cases h
  | succ n ih =>
    intro pc env P z h L st hlay Q hQ
    unfold f_X10_copyRows at h
    split at h
    · cases hlay
      exact t_X10_copyRows_0 hl ih h hQ
    · cases hlay
      exact t_X10_copyRows_2 hl ih h hQ
    · cases h
theorem c_X10_copyRows {G : xG} {l : Launch} (hl : l.stackTraces = false) {n : Nat} {as : List Value} {P : xH} {z : xR × xH} (h : f_X10_copyRows n 0 as P = some z) : Ct G l 8 mX10_copyRows as P (fun r P1 => (r, P1) = z) := by
  cases n with
  | zero => cases h
  | succ n =>
    unfold f_X10_copyRows at h
    split at h
    · exact Ct.of hl (by decide +kernel) wc_X10_copyRows (Nat.le_of_ble_eq_true rfl) (t_X10_copyRows_0 hl (s_X10_copyRows hl _) h rfl)
    all_goals first | (cases h; done) | (rename_i q9 _; exact absurd q9 (by decide)) | (rename_i q9; exact absurd q9 (by decide)) | contradiction
/-! QuakeNet$Help.become(LQuakeNet$Help;)V -/
def b_X0_become_0 (n : Nat) (rec : Nat → List Value → xH → xO) (a0 : Nat) (a1 : Nat) (P : xH) : xO :=
  (rA P a1 0 0).bind fun v1 =>
  (rA P a0 0 0).bind fun v3 =>
  (f_X10_copyRows n 0 [.ref v1, .ref v3] P).bind fun r6 => xU r6 fun P5 =>
  (rA P5 a1 0 1).bind fun v8 =>
  (rA P5 a0 0 1).bind fun v10 =>
  (f_X10_copyRow n 0 [.ref v8, .ref v10] P5).bind fun r13 => xU r13 fun P12 =>
  (rA P12 a1 0 2).bind fun v15 =>
  (rA P12 a0 0 2).bind fun v17 =>
  (f_X10_copyRow n 0 [.ref v15, .ref v17] P12).bind fun r20 => xU r20 fun P19 =>
  (rI P19 a1 0 5).bind fun v22 =>
  (wV P19 a0 0 5 (.int v22)).bind fun P24 =>
  (rI P24 a1 0 6).bind fun v26 =>
  (wV P24 a0 0 6 (.int v26)).bind fun P28 =>
  some (.inl none, P28)
def lay_X0_become : Nat → List Value → Option (xL × List Value)
  | 0, [a0, a1] => some ([some a0, some a1], [])
  | _, _ => none
def f_X0_become : Nat → Nat → List Value → xH → xO
  | 0 => fun _ _ _ => none
  | n + 1 => fun pc env P => match pc, env with
    | 0, [.ref a0, .ref a1] => b_X0_become_0 n (f_X0_become n) a0 a1 P
    | _, _ => none
set_option maxHeartbeats 2000000 in
set_option maxRecDepth 20000 in
theorem t_X0_become_0 {G : xG} {l : Launch} (hl : l.stackTraces = false) {n : Nat} {rec : Nat → List Value → xH → xO} (hrec : ∀ pc env P z, rec pc env P = some z → ∀ L st, lay_X0_become pc env = some (L, st) → ∀ Q : xR → xH → Prop, Q z.1 z.2 → Wp G l 9 mX0_become pc L st P Q) {a0 a1} {P : xH} {z : xR × xH} (h : b_X0_become_0 n rec a0 a1 P = some z) {Q : xR → xH → Prop} (hQ : Q z.1 z.2) : Wp G l 9 mX0_become 0 [some (.ref a0), some (.ref a1)] [] P Q := by
  unfold b_X0_become_0 at h
  refine x_aload_nr dX0_become_0 rfl ?_
  obtain ⟨v1, e2, h⟩ := Option.bind_eq_some_iff.mp h
  refine k_rA e2 dX0_become_1 f_X0_13 ?_
  refine x_aload_nr dX0_become_4 rfl ?_
  obtain ⟨v3, e4, h⟩ := Option.bind_eq_some_iff.mp h
  refine k_rA e4 dX0_become_5 f_X0_13 ?_
  obtain ⟨r6, e7, h⟩ := Option.bind_eq_some_iff.mp h
  replace h := xU_ok h
  obtain ⟨P5, rfl, h⟩ := h
  refine x_callSN (c_X10_copyRows hl e7) dX0_become_8 cw_X10_copyRows wn_X0_29 ws_X10_copyRows rfl (by omega) (by decide) rfl (Nat.le_of_ble_eq_true rfl) (fun i9 P9 hq9 => by cases hq9) (fun v9 P9 hq9 => ?_)
  cases hq9
  refine x_aload_nr dX0_become_11 rfl ?_
  obtain ⟨v8, e9, h⟩ := Option.bind_eq_some_iff.mp h
  refine k_rA e9 dX0_become_12 f_X0_16 ?_
  refine x_aload_nr dX0_become_15 rfl ?_
  obtain ⟨v10, e11, h⟩ := Option.bind_eq_some_iff.mp h
  refine k_rA e11 dX0_become_16 f_X0_16 ?_
  obtain ⟨r13, e14, h⟩ := Option.bind_eq_some_iff.mp h
  replace h := xU_ok h
  obtain ⟨P12, rfl, h⟩ := h
  refine x_callSN (c_X10_copyRow hl e14) dX0_become_19 cw_X10_copyRow wn_X0_33 ws_X10_copyRow rfl (by omega) (by decide) rfl (Nat.le_of_ble_eq_true rfl) (fun i9 P9 hq9 => by cases hq9) (fun v9 P9 hq9 => ?_)
  cases hq9
  refine x_aload_nr dX0_become_22 rfl ?_
  obtain ⟨v15, e16, h⟩ := Option.bind_eq_some_iff.mp h
  refine k_rA e16 dX0_become_23 f_X0_20 ?_
  refine x_aload_nr dX0_become_26 rfl ?_
  obtain ⟨v17, e18, h⟩ := Option.bind_eq_some_iff.mp h
  refine k_rA e18 dX0_become_27 f_X0_20 ?_
  obtain ⟨r20, e21, h⟩ := Option.bind_eq_some_iff.mp h
  replace h := xU_ok h
  obtain ⟨P19, rfl, h⟩ := h
  refine x_callSN (c_X10_copyRow hl e21) dX0_become_30 cw_X10_copyRow wn_X0_33 ws_X10_copyRow rfl (by omega) (by decide) rfl (Nat.le_of_ble_eq_true rfl) (fun i9 P9 hq9 => by cases hq9) (fun v9 P9 hq9 => ?_)
  cases hq9
  refine x_aload_nr dX0_become_33 rfl ?_
  refine x_aload_nr dX0_become_34 rfl ?_
  obtain ⟨v22, e23, h⟩ := Option.bind_eq_some_iff.mp h
  refine k_rI e23 dX0_become_35 f_X0_37 ?_
  obtain ⟨P24, e25, h⟩ := Option.bind_eq_some_iff.mp h
  refine k_wI e25 dX0_become_38 f_X0_37 (Or.inl (by decide)) rfl ?_
  refine x_aload_nr dX0_become_41 rfl ?_
  refine x_aload_nr dX0_become_42 rfl ?_
  obtain ⟨v26, e27, h⟩ := Option.bind_eq_some_iff.mp h
  refine k_rI e27 dX0_become_43 f_X0_41 ?_
  obtain ⟨P28, e29, h⟩ := Option.bind_eq_some_iff.mp h
  refine k_wI e29 dX0_become_46 f_X0_41 (Or.inl (by decide)) rfl ?_
  cases h
  exact x_ret rfl dX0_become_49 hQ
theorem s_X0_become {G : xG} {l : Launch} (hl : l.stackTraces = false) : ∀ n pc env P z, f_X0_become n pc env P = some z → ∀ L st, lay_X0_become pc env = some (L, st) → ∀ Q : xR → xH → Prop, Q z.1 z.2 → Wp G l 9 mX0_become pc L st P Q := by
  intro n
  induction n with
  | zero => intro pc env P z h; cases h
  | succ n ih =>
    intro pc env P z h L st hlay Q hQ
    unfold f_X0_become at h
    split at h
    · cases hlay
      exact t_X0_become_0 hl ih h hQ
    · cases h
theorem c_X0_become {G : xG} {l : Launch} (hl : l.stackTraces = false) {n : Nat} {as : List Value} {P : xH} {z : xR × xH} (h : f_X0_become n 0 as P = some z) : Ct G l 9 mX0_become as P (fun r P1 => (r, P1) = z) := by
  cases n with
  | zero => cases h
  | succ n =>
    unfold f_X0_become at h
    split at h
    · exact Ct.of hl (by decide +kernel) wc_X0_become (Nat.le_of_ble_eq_true rfl) (t_X0_become_0 hl (s_X0_become hl _) h rfl)
    all_goals first | (cases h; done) | (rename_i q9 _; exact absurd q9 (by decide)) | (rename_i q9; exact absurd q9 (by decide)) | contradiction
/-! QuakeNet$Net.become(LQuakeNet$Net;)V -/
def b_X1_become_0 (n : Nat) (rec : Nat → List Value → xH → xO) (a0 : Nat) (a1 : Nat) (P : xH) : xO :=
  (rI P a1 1 2).bind fun v1 =>
  (wV P a0 1 2 (.int v1)).bind fun P3 =>
  (rI P3 a1 1 3).bind fun v5 =>
  (wV P3 a0 1 3 (.int v5)).bind fun P7 =>
  (rI P7 a1 1 4).bind fun v9 =>
  (wV P7 a0 1 4 (.int v9)).bind fun P11 =>
  (rA P11 a1 1 5).bind fun v13 =>
  (rA P11 a0 1 5).bind fun v15 =>
  (f_X10_copyRows n 0 [.ref v13, .ref v15] P11).bind fun r18 => xU r18 fun P17 =>
  (rA P17 a1 1 6).bind fun v20 =>
  (rA P17 a0 1 6).bind fun v22 =>
  (f_X10_copyRows n 0 [.ref v20, .ref v22] P17).bind fun r25 => xU r25 fun P24 =>
  (rA P24 a1 1 7).bind fun v27 =>
  (rA P24 a0 1 7).bind fun v29 =>
  (rA P24 a0 1 7).bind fun v31 =>
  (aL P24 v31).bind fun v33 =>
  (cpJ P24 v27 0 v29 0 v33).bind fun P35 =>
  (rA P35 a1 1 8).bind fun v37 =>
  (rA P35 a0 1 8).bind fun v39 =>
  (f_X10_copyRow n 0 [.ref v37, .ref v39] P35).bind fun r42 => xU r42 fun P41 =>
  (rA P41 a1 1 9).bind fun v44 =>
  (rA P41 a0 1 9).bind fun v46 =>
  (f_X10_copyRow n 0 [.ref v44, .ref v46] P41).bind fun r49 => xU r49 fun P48 =>
  (rA P48 a1 1 10).bind fun v51 =>
  (rA P48 a0 1 10).bind fun v53 =>
  (f_X10_copyRow n 0 [.ref v51, .ref v53] P48).bind fun r56 => xU r56 fun P55 =>
  (rA P55 a1 1 11).bind fun v58 =>
  (rA P55 a0 1 11).bind fun v60 =>
  (f_X10_copyRow n 0 [.ref v58, .ref v60] P55).bind fun r63 => xU r63 fun P62 =>
  (rA P62 a1 1 12).bind fun v65 =>
  (rA P62 a0 1 12).bind fun v67 =>
  (rA P62 a0 1 12).bind fun v69 =>
  (aL P62 v69).bind fun v71 =>
  (cpJ P62 v65 0 v67 0 v71).bind fun P73 =>
  some (.inl none, P73)
def lay_X1_become : Nat → List Value → Option (xL × List Value)
  | 0, [a0, a1] => some ([some a0, some a1], [])
  | _, _ => none
def f_X1_become : Nat → Nat → List Value → xH → xO
  | 0 => fun _ _ _ => none
  | n + 1 => fun pc env P => match pc, env with
    | 0, [.ref a0, .ref a1] => b_X1_become_0 n (f_X1_become n) a0 a1 P
    | _, _ => none
set_option maxHeartbeats 2000000 in
set_option maxRecDepth 20000 in
theorem t_X1_become_0 {G : xG} {l : Launch} (hl : l.stackTraces = false) {n : Nat} {rec : Nat → List Value → xH → xO} (hrec : ∀ pc env P z, rec pc env P = some z → ∀ L st, lay_X1_become pc env = some (L, st) → ∀ Q : xR → xH → Prop, Q z.1 z.2 → Wp G l 9 mX1_become pc L st P Q) {a0 a1} {P : xH} {z : xR × xH} (h : b_X1_become_0 n rec a0 a1 P = some z) {Q : xR → xH → Prop} (hQ : Q z.1 z.2) : Wp G l 9 mX1_become 0 [some (.ref a0), some (.ref a1)] [] P Q := by
  unfold b_X1_become_0 at h
  refine x_aload_nr dX1_become_0 rfl ?_
  refine x_aload_nr dX1_become_1 rfl ?_
  obtain ⟨v1, e2, h⟩ := Option.bind_eq_some_iff.mp h
  refine k_rI e2 dX1_become_2 f_X1_56 ?_
  obtain ⟨P3, e4, h⟩ := Option.bind_eq_some_iff.mp h
  refine k_wI e4 dX1_become_5 f_X1_56 (Or.inl (by decide)) rfl ?_
  refine x_aload_nr dX1_become_8 rfl ?_
  refine x_aload_nr dX1_become_9 rfl ?_
  obtain ⟨v5, e6, h⟩ := Option.bind_eq_some_iff.mp h
  refine k_rI e6 dX1_become_10 f_X1_60 ?_
  obtain ⟨P7, e8, h⟩ := Option.bind_eq_some_iff.mp h
  refine k_wI e8 dX1_become_13 f_X1_60 (Or.inl (by decide)) rfl ?_
  refine x_aload_nr dX1_become_16 rfl ?_
  refine x_aload_nr dX1_become_17 rfl ?_
  obtain ⟨v9, e10, h⟩ := Option.bind_eq_some_iff.mp h
  refine k_rI e10 dX1_become_18 f_X1_63 ?_
  obtain ⟨P11, e12, h⟩ := Option.bind_eq_some_iff.mp h
  refine k_wI e12 dX1_become_21 f_X1_63 (Or.inl (by decide)) rfl ?_
  refine x_aload_nr dX1_become_24 rfl ?_
  obtain ⟨v13, e14, h⟩ := Option.bind_eq_some_iff.mp h
  refine k_rA e14 dX1_become_25 f_X1_13 ?_
  refine x_aload_nr dX1_become_28 rfl ?_
  obtain ⟨v15, e16, h⟩ := Option.bind_eq_some_iff.mp h
  refine k_rA e16 dX1_become_29 f_X1_13 ?_
  obtain ⟨r18, e19, h⟩ := Option.bind_eq_some_iff.mp h
  replace h := xU_ok h
  obtain ⟨P17, rfl, h⟩ := h
  refine x_callSN (c_X10_copyRows hl e19) dX1_become_32 cw_X10_copyRows wn_X1_66 ws_X10_copyRows rfl (by omega) (by decide) rfl (Nat.le_of_ble_eq_true rfl) (fun i9 P9 hq9 => by cases hq9) (fun v9 P9 hq9 => ?_)
  cases hq9
  refine x_aload_nr dX1_become_35 rfl ?_
  obtain ⟨v20, e21, h⟩ := Option.bind_eq_some_iff.mp h
  refine k_rA e21 dX1_become_36 f_X1_16 ?_
  refine x_aload_nr dX1_become_39 rfl ?_
  obtain ⟨v22, e23, h⟩ := Option.bind_eq_some_iff.mp h
  refine k_rA e23 dX1_become_40 f_X1_16 ?_
  obtain ⟨r25, e26, h⟩ := Option.bind_eq_some_iff.mp h
  replace h := xU_ok h
  obtain ⟨P24, rfl, h⟩ := h
  refine x_callSN (c_X10_copyRows hl e26) dX1_become_43 cw_X10_copyRows wn_X1_66 ws_X10_copyRows rfl (by omega) (by decide) rfl (Nat.le_of_ble_eq_true rfl) (fun i9 P9 hq9 => by cases hq9) (fun v9 P9 hq9 => ?_)
  cases hq9
  refine x_aload_nr dX1_become_46 rfl ?_
  obtain ⟨v27, e28, h⟩ := Option.bind_eq_some_iff.mp h
  refine k_rA e28 dX1_become_47 f_X1_19 ?_
  refine x_iconst 0 dX1_become_50 (by decide) ?_
  refine x_aload_nr dX1_become_51 rfl ?_
  obtain ⟨v29, e30, h⟩ := Option.bind_eq_some_iff.mp h
  refine k_rA e30 dX1_become_52 f_X1_19 ?_
  refine x_iconst 0 dX1_become_55 (by decide) ?_
  refine x_aload_nr dX1_become_56 rfl ?_
  obtain ⟨v31, e32, h⟩ := Option.bind_eq_some_iff.mp h
  refine k_rA e32 dX1_become_57 f_X1_19 ?_
  obtain ⟨v33, e34, h⟩ := Option.bind_eq_some_iff.mp h
  refine k_aL e34 dX1_become_60 ?_
  obtain ⟨P35, e36, h⟩ := Option.bind_eq_some_iff.mp h
  refine k_cpJ e36 dX1_become_61 wl_X1_70 (Nat.le_of_ble_eq_true rfl) (by omega) ?_
  refine x_aload_nr dX1_become_64 rfl ?_
  obtain ⟨v37, e38, h⟩ := Option.bind_eq_some_iff.mp h
  refine k_rA e38 dX1_become_65 f_X1_23 ?_
  refine x_aload_nr dX1_become_68 rfl ?_
  obtain ⟨v39, e40, h⟩ := Option.bind_eq_some_iff.mp h
  refine k_rA e40 dX1_become_69 f_X1_23 ?_
  obtain ⟨r42, e43, h⟩ := Option.bind_eq_some_iff.mp h
  replace h := xU_ok h
  obtain ⟨P41, rfl, h⟩ := h
  refine x_callSN (c_X10_copyRow hl e43) dX1_become_72 cw_X10_copyRow wn_X1_76 ws_X10_copyRow rfl (by omega) (by decide) rfl (Nat.le_of_ble_eq_true rfl) (fun i9 P9 hq9 => by cases hq9) (fun v9 P9 hq9 => ?_)
  cases hq9
  refine x_aload_nr dX1_become_75 rfl ?_
  obtain ⟨v44, e45, h⟩ := Option.bind_eq_some_iff.mp h
  refine k_rA e45 dX1_become_76 f_X1_27 ?_
  refine x_aload_nr dX1_become_79 rfl ?_
  obtain ⟨v46, e47, h⟩ := Option.bind_eq_some_iff.mp h
  refine k_rA e47 dX1_become_80 f_X1_27 ?_
  obtain ⟨r49, e50, h⟩ := Option.bind_eq_some_iff.mp h
  replace h := xU_ok h
  obtain ⟨P48, rfl, h⟩ := h
  refine x_callSN (c_X10_copyRow hl e50) dX1_become_83 cw_X10_copyRow wn_X1_76 ws_X10_copyRow rfl (by omega) (by decide) rfl (Nat.le_of_ble_eq_true rfl) (fun i9 P9 hq9 => by cases hq9) (fun v9 P9 hq9 => ?_)
  cases hq9
  refine x_aload_nr dX1_become_86 rfl ?_
  obtain ⟨v51, e52, h⟩ := Option.bind_eq_some_iff.mp h
  refine k_rA e52 dX1_become_87 f_X1_30 ?_
  refine x_aload_nr dX1_become_90 rfl ?_
  obtain ⟨v53, e54, h⟩ := Option.bind_eq_some_iff.mp h
  refine k_rA e54 dX1_become_91 f_X1_30 ?_
  obtain ⟨r56, e57, h⟩ := Option.bind_eq_some_iff.mp h
  replace h := xU_ok h
  obtain ⟨P55, rfl, h⟩ := h
  refine x_callSN (c_X10_copyRow hl e57) dX1_become_94 cw_X10_copyRow wn_X1_76 ws_X10_copyRow rfl (by omega) (by decide) rfl (Nat.le_of_ble_eq_true rfl) (fun i9 P9 hq9 => by cases hq9) (fun v9 P9 hq9 => ?_)
  cases hq9
  refine x_aload_nr dX1_become_97 rfl ?_
  obtain ⟨v58, e59, h⟩ := Option.bind_eq_some_iff.mp h
  refine k_rA e59 dX1_become_98 f_X1_33 ?_
  refine x_aload_nr dX1_become_101 rfl ?_
  obtain ⟨v60, e61, h⟩ := Option.bind_eq_some_iff.mp h
  refine k_rA e61 dX1_become_102 f_X1_33 ?_
  obtain ⟨r63, e64, h⟩ := Option.bind_eq_some_iff.mp h
  replace h := xU_ok h
  obtain ⟨P62, rfl, h⟩ := h
  refine x_callSN (c_X10_copyRow hl e64) dX1_become_105 cw_X10_copyRow wn_X1_76 ws_X10_copyRow rfl (by omega) (by decide) rfl (Nat.le_of_ble_eq_true rfl) (fun i9 P9 hq9 => by cases hq9) (fun v9 P9 hq9 => ?_)
  cases hq9
  refine x_aload_nr dX1_become_108 rfl ?_
  obtain ⟨v65, e66, h⟩ := Option.bind_eq_some_iff.mp h
  refine k_rA e66 dX1_become_109 f_X1_36 ?_
  refine x_iconst 0 dX1_become_112 (by decide) ?_
  refine x_aload_nr dX1_become_113 rfl ?_
  obtain ⟨v67, e68, h⟩ := Option.bind_eq_some_iff.mp h
  refine k_rA e68 dX1_become_114 f_X1_36 ?_
  refine x_iconst 0 dX1_become_117 (by decide) ?_
  refine x_aload_nr dX1_become_118 rfl ?_
  obtain ⟨v69, e70, h⟩ := Option.bind_eq_some_iff.mp h
  refine k_rA e70 dX1_become_119 f_X1_36 ?_
  obtain ⟨v71, e72, h⟩ := Option.bind_eq_some_iff.mp h
  refine k_aL e72 dX1_become_122 ?_
  obtain ⟨P73, e74, h⟩ := Option.bind_eq_some_iff.mp h
  refine k_cpJ e74 dX1_become_123 wl_X1_70 (Nat.le_of_ble_eq_true rfl) (by omega) ?_
  cases h
  exact x_ret rfl dX1_become_126 hQ
theorem s_X1_become {G : xG} {l : Launch} (hl : l.stackTraces = false) : ∀ n pc env P z, f_X1_become n pc env P = some z → ∀ L st, lay_X1_become pc env = some (L, st) → ∀ Q : xR → xH → Prop, Q z.1 z.2 → Wp G l 9 mX1_become pc L st P Q := by
  intro n
  induction n with
  | zero => intro pc env P z h; cases h
  | succ n ih =>
    intro pc env P z h L st hlay Q hQ
    unfold f_X1_become at h
    split at h
    · cases hlay
      exact t_X1_become_0 hl ih h hQ
    · cases h
theorem c_X1_become {G : xG} {l : Launch} (hl : l.stackTraces = false) {n : Nat} {as : List Value} {P : xH} {z : xR × xH} (h : f_X1_become n 0 as P = some z) : Ct G l 9 mX1_become as P (fun r P1 => (r, P1) = z) := by
  cases n with
  | zero => cases h
  | succ n =>
    unfold f_X1_become at h
    split at h
    · exact Ct.of hl (by decide +kernel) wc_X1_become (Nat.le_of_ble_eq_true rfl) (t_X1_become_0 hl (s_X1_become hl _) h rfl)
    all_goals first | (cases h; done) | (rename_i q9 _; exact absurd q9 (by decide)) | (rename_i q9; exact absurd q9 (by decide)) | contradiction
/-! QuakeNet$Parting.become(LQuakeNet$Parting;)V -/
def b_X2_become_0 (n : Nat) (rec : Nat → List Value → xH → xO) (a0 : Nat) (a1 : Nat) (P : xH) : xO :=
  (rA P a1 2 0).bind fun v1 =>
  (rA P a0 2 0).bind fun v3 =>
  (f_X10_copyRow n 0 [.ref v1, .ref v3] P).bind fun r6 => xU r6 fun P5 =>
  (rA P5 a1 2 1).bind fun v8 =>
  (rA P5 a0 2 1).bind fun v10 =>
  (f_X10_copyRow n 0 [.ref v8, .ref v10] P5).bind fun r13 => xU r13 fun P12 =>
  (rA P12 a1 2 2).bind fun v15 =>
  (rA P12 a0 2 2).bind fun v17 =>
  (f_X10_copyRow n 0 [.ref v15, .ref v17] P12).bind fun r20 => xU r20 fun P19 =>
  (rI P19 a1 2 5).bind fun v22 =>
  (wV P19 a0 2 5 (.int v22)).bind fun P24 =>
  (rI P24 a1 2 6).bind fun v26 =>
  (wV P24 a0 2 6 (.int v26)).bind fun P28 =>
  some (.inl none, P28)
def lay_X2_become : Nat → List Value → Option (xL × List Value)
  | 0, [a0, a1] => some ([some a0, some a1], [])
  | _, _ => none
def f_X2_become : Nat → Nat → List Value → xH → xO
  | 0 => fun _ _ _ => none
  | n + 1 => fun pc env P => match pc, env with
    | 0, [.ref a0, .ref a1] => b_X2_become_0 n (f_X2_become n) a0 a1 P
    | _, _ => none
set_option maxHeartbeats 2000000 in
set_option maxRecDepth 20000 in
theorem t_X2_become_0 {G : xG} {l : Launch} (hl : l.stackTraces = false) {n : Nat} {rec : Nat → List Value → xH → xO} (hrec : ∀ pc env P z, rec pc env P = some z → ∀ L st, lay_X2_become pc env = some (L, st) → ∀ Q : xR → xH → Prop, Q z.1 z.2 → Wp G l 8 mX2_become pc L st P Q) {a0 a1} {P : xH} {z : xR × xH} (h : b_X2_become_0 n rec a0 a1 P = some z) {Q : xR → xH → Prop} (hQ : Q z.1 z.2) : Wp G l 8 mX2_become 0 [some (.ref a0), some (.ref a1)] [] P Q := by
  unfold b_X2_become_0 at h
  refine x_aload_nr dX2_become_0 rfl ?_
  obtain ⟨v1, e2, h⟩ := Option.bind_eq_some_iff.mp h
  refine k_rA e2 dX2_become_1 f_X2_11 ?_
  refine x_aload_nr dX2_become_4 rfl ?_
  obtain ⟨v3, e4, h⟩ := Option.bind_eq_some_iff.mp h
  refine k_rA e4 dX2_become_5 f_X2_11 ?_
  obtain ⟨r6, e7, h⟩ := Option.bind_eq_some_iff.mp h
  replace h := xU_ok h
  obtain ⟨P5, rfl, h⟩ := h
  refine x_callSN (c_X10_copyRow hl e7) dX2_become_8 cw_X10_copyRow wn_X2_31 ws_X10_copyRow rfl (by omega) (by decide) rfl (Nat.le_of_ble_eq_true rfl) (fun i9 P9 hq9 => by cases hq9) (fun v9 P9 hq9 => ?_)
  cases hq9
  refine x_aload_nr dX2_become_11 rfl ?_
  obtain ⟨v8, e9, h⟩ := Option.bind_eq_some_iff.mp h
  refine k_rA e9 dX2_become_12 f_X2_15 ?_
  refine x_aload_nr dX2_become_15 rfl ?_
  obtain ⟨v10, e11, h⟩ := Option.bind_eq_some_iff.mp h
  refine k_rA e11 dX2_become_16 f_X2_15 ?_
  obtain ⟨r13, e14, h⟩ := Option.bind_eq_some_iff.mp h
  replace h := xU_ok h
  obtain ⟨P12, rfl, h⟩ := h
  refine x_callSN (c_X10_copyRow hl e14) dX2_become_19 cw_X10_copyRow wn_X2_31 ws_X10_copyRow rfl (by omega) (by decide) rfl (Nat.le_of_ble_eq_true rfl) (fun i9 P9 hq9 => by cases hq9) (fun v9 P9 hq9 => ?_)
  cases hq9
  refine x_aload_nr dX2_become_22 rfl ?_
  obtain ⟨v15, e16, h⟩ := Option.bind_eq_some_iff.mp h
  refine k_rA e16 dX2_become_23 f_X2_18 ?_
  refine x_aload_nr dX2_become_26 rfl ?_
  obtain ⟨v17, e18, h⟩ := Option.bind_eq_some_iff.mp h
  refine k_rA e18 dX2_become_27 f_X2_18 ?_
  obtain ⟨r20, e21, h⟩ := Option.bind_eq_some_iff.mp h
  replace h := xU_ok h
  obtain ⟨P19, rfl, h⟩ := h
  refine x_callSN (c_X10_copyRow hl e21) dX2_become_30 cw_X10_copyRow wn_X2_31 ws_X10_copyRow rfl (by omega) (by decide) rfl (Nat.le_of_ble_eq_true rfl) (fun i9 P9 hq9 => by cases hq9) (fun v9 P9 hq9 => ?_)
  cases hq9
  refine x_aload_nr dX2_become_33 rfl ?_
  refine x_aload_nr dX2_become_34 rfl ?_
  obtain ⟨v22, e23, h⟩ := Option.bind_eq_some_iff.mp h
  refine k_rI e23 dX2_become_35 f_X2_35 ?_
  obtain ⟨P24, e25, h⟩ := Option.bind_eq_some_iff.mp h
  refine k_wI e25 dX2_become_38 f_X2_35 (Or.inl (by decide)) rfl ?_
  refine x_aload_nr dX2_become_41 rfl ?_
  refine x_aload_nr dX2_become_42 rfl ?_
  obtain ⟨v26, e27, h⟩ := Option.bind_eq_some_iff.mp h
  refine k_rI e27 dX2_become_43 f_X2_27 ?_
  obtain ⟨P28, e29, h⟩ := Option.bind_eq_some_iff.mp h
  refine k_wI e29 dX2_become_46 f_X2_27 (Or.inl (by decide)) rfl ?_
  cases h
  exact x_ret rfl dX2_become_49 hQ
theorem s_X2_become {G : xG} {l : Launch} (hl : l.stackTraces = false) : ∀ n pc env P z, f_X2_become n pc env P = some z → ∀ L st, lay_X2_become pc env = some (L, st) → ∀ Q : xR → xH → Prop, Q z.1 z.2 → Wp G l 8 mX2_become pc L st P Q := by
  intro n
  induction n with
  | zero => intro pc env P z h; cases h
  | succ n ih =>
    intro pc env P z h L st hlay Q hQ
    unfold f_X2_become at h
    split at h
    · cases hlay
      exact t_X2_become_0 hl ih h hQ
    · cases h
theorem c_X2_become {G : xG} {l : Launch} (hl : l.stackTraces = false) {n : Nat} {as : List Value} {P : xH} {z : xR × xH} (h : f_X2_become n 0 as P = some z) : Ct G l 8 mX2_become as P (fun r P1 => (r, P1) = z) := by
  cases n with
  | zero => cases h
  | succ n =>
    unfold f_X2_become at h
    split at h
    · exact Ct.of hl (by decide +kernel) wc_X2_become (Nat.le_of_ble_eq_true rfl) (t_X2_become_0 hl (s_X2_become hl _) h rfl)
    all_goals first | (cases h; done) | (rename_i q9 _; exact absurd q9 (by decide)) | (rename_i q9; exact absurd q9 (by decide)) | contradiction
