/-! QuakeNet.rumour(I)I -/
def b_X10_rumour_0 (n : Nat) (rec : Nat → List Value → xH → xO) (a0 : Nat) (a1 : Int32) (P : xH) : xO :=
  (kO P a0 10).bind fun _ =>
  (f_X10_needWord n 0 [.ref a0, .int a1] P).bind fun r2 => xUt r2 fun P1 =>
  (rA P1 a0 10 1).bind fun v5 =>
  (rA P1 v5 7 3).bind fun v7 =>
  (kO P1 v7 1).bind fun _ =>
  (f_X1_firstToSwell n 0 [.ref v7, .int a1] P1).bind fun r10 => xI r10 fun v12 P9 =>
  some (.inl (some (.int v12)), P9)
def lay_X10_rumour : Nat → List Value → Option (xL × List Value)
  | 0, [a0, a1] => some ([some a0, some a1], [])
  | _, _ => none
def f_X10_rumour : Nat → Nat → List Value → xH → xO
  | 0 => fun _ _ _ => none
  | n + 1 => fun pc env P => match pc, env with
    | 0, [.ref a0, .int a1] => b_X10_rumour_0 n (f_X10_rumour n) a0 a1 P
    | _, _ => none
set_option maxHeartbeats 2000000 in
set_option maxRecDepth 20000 in
theorem t_X10_rumour_0 {G : xG} {l : Launch} (hl : l.stackTraces = false) {n : Nat} {rec : Nat → List Value → xH → xO} (hrec : ∀ pc env P z, rec pc env P = some z → ∀ L st, lay_X10_rumour pc env = some (L, st) → ∀ Q : xR → xH → Prop, Q z.1 z.2 → Wp G l 10 mX10_rumour pc L st P Q) {a0 a1} {P : xH} {z : xR × xH} (h : b_X10_rumour_0 n rec a0 a1 P = some z) {Q : xR → xH → Prop} (hQ : Q z.1 z.2) : Wp G l 10 mX10_rumour 0 [some (.ref a0), some (.int a1)] [] P Q := by
  unfold b_X10_rumour_0 at h
  refine x_aload_nr dX10_rumour_0 rfl ?_
  refine x_iload_n dX10_rumour_1 rfl ?_
  obtain ⟨_, e4, h⟩ := Option.bind_eq_some_iff.mp h
  obtain ⟨fse4, e4⟩ := kO_ok e4
  obtain ⟨r2, e3, h⟩ := Option.bind_eq_some_iff.mp h
  replace h := xUt_ok h
  rcases h with ⟨P1, hr9, h⟩ | ⟨i8, P8, rfl, rfl⟩
  · subst hr9
    refine x_callV (c_X10_needWord hl e3) dX10_rumour_2 cw_X10_needWord wl_X10_141 wi_X10_needWord wse_X10_needWord rfl e4 (by decide) rfl (by omega) (by decide) rfl (Nat.le_of_ble_eq_true rfl) rfl (fun v9 P9 hq9 => ?_) (fun i9 P9 hq9 => by cases hq9)
    cases hq9
    refine x_aload_nr dX10_rumour_5 rfl ?_
    obtain ⟨v5, e6, h⟩ := Option.bind_eq_some_iff.mp h
    refine k_rA e6 dX10_rumour_6 f_X10_19 ?_
    obtain ⟨v7, e8, h⟩ := Option.bind_eq_some_iff.mp h
    refine k_rA e8 dX10_rumour_9 f_X10_42 ?_
    refine x_iload_n dX10_rumour_12 rfl ?_
    obtain ⟨_, e13, h⟩ := Option.bind_eq_some_iff.mp h
    obtain ⟨fse13, e13⟩ := kO_ok e13
    obtain ⟨r10, e11, h⟩ := Option.bind_eq_some_iff.mp h
    replace h := xI_ok h
    obtain ⟨v12, P9, rfl, h⟩ := h
    refine x_callV (c_X1_firstToSwell hl e11) dX10_rumour_13 cw_X1_firstToSwell wl_X10_197 wi_X1_firstToSwell wse_X1_firstToSwell rfl e13 (by decide) rfl (by omega) (by decide) rfl (Nat.le_of_ble_eq_true rfl) rfl (fun v9 P9 hq9 => ?_) (fun i9 P9 hq9 => by cases hq9)
    cases hq9
    cases h
    exact x_iret .int rfl rfl dX10_rumour_16 hQ
  · exact x_callV (c_X10_needWord hl e3) dX10_rumour_2 cw_X10_needWord wl_X10_141 wi_X10_needWord wse_X10_needWord rfl e4 (by decide) rfl (by omega) (by decide) rfl (Nat.le_of_ble_eq_true rfl) rfl (fun v9 P9 hq9 => by cases hq9) (fun i9 P9 hq9 => by cases hq9; exact hQ)
theorem s_X10_rumour {G : xG} {l : Launch} (hl : l.stackTraces = false) : ∀ n pc env P z, f_X10_rumour n pc env P = some z → ∀ L st, lay_X10_rumour pc env = some (L, st) → ∀ Q : xR → xH → Prop, Q z.1 z.2 → Wp G l 10 mX10_rumour pc L st P Q := by
  intro n
  induction n with
  | zero => intro pc env P z h; cases h
  | succ n ih =>
    intro pc env P z h L st hlay Q hQ
    unfold f_X10_rumour at h
    split at h
    · cases hlay
      exact t_X10_rumour_0 hl ih h hQ
    · cases h
theorem c_X10_rumour {G : xG} {l : Launch} (hl : l.stackTraces = false) {n : Nat} {as : List Value} {P : xH} {z : xR × xH} (h : f_X10_rumour n 0 as P = some z) : Ct G l 10 mX10_rumour as P (fun r P1 => (r, P1) = z) := by
  cases n with
  | zero => cases h
  | succ n =>
    unfold f_X10_rumour at h
    split at h
    · exact Ct.of hl (by decide +kernel) wc_X10_rumour (Nat.le_of_ble_eq_true rfl) (t_X10_rumour_0 hl (s_X10_rumour hl _) h rfl)
    all_goals first | (cases h; done) | (rename_i q9 _; exact absurd q9 (by decide)) | (rename_i q9; exact absurd q9 (by decide)) | contradiction
/-! java/lang/Integer.bitCount(I)I -/
def b_J6_bitCount_0f7a4_0 (n : Nat) (rec : Nat → List Value → xH → xO) (a0 : Int32) (P : xH) : xO :=
  some (.inl (some (.int ((((((((((((((((a0 - (((((Int32.toUInt32 a0 >>> (Int32.toUInt32 1 &&& Int32.toUInt32 31)).toInt32)) &&& 1431655765)))) &&& 858993459)) + (((((Int32.toUInt32 ((a0 - (((((Int32.toUInt32 a0 >>> (Int32.toUInt32 1 &&& Int32.toUInt32 31)).toInt32)) &&& 1431655765)))) >>> (Int32.toUInt32 2 &&& Int32.toUInt32 31)).toInt32)) &&& 858993459)))) + (((Int32.toUInt32 ((((((a0 - (((((Int32.toUInt32 a0 >>> (Int32.toUInt32 1 &&& Int32.toUInt32 31)).toInt32)) &&& 1431655765)))) &&& 858993459)) + (((((Int32.toUInt32 ((a0 - (((((Int32.toUInt32 a0 >>> (Int32.toUInt32 1 &&& Int32.toUInt32 31)).toInt32)) &&& 1431655765)))) >>> (Int32.toUInt32 2 &&& Int32.toUInt32 31)).toInt32)) &&& 858993459)))) >>> (Int32.toUInt32 4 &&& Int32.toUInt32 31)).toInt32)))) &&& 252645135)) + (((Int32.toUInt32 ((((((((((a0 - (((((Int32.toUInt32 a0 >>> (Int32.toUInt32 1 &&& Int32.toUInt32 31)).toInt32)) &&& 1431655765)))) &&& 858993459)) + (((((Int32.toUInt32 ((a0 - (((((Int32.toUInt32 a0 >>> (Int32.toUInt32 1 &&& Int32.toUInt32 31)).toInt32)) &&& 1431655765)))) >>> (Int32.toUInt32 2 &&& Int32.toUInt32 31)).toInt32)) &&& 858993459)))) + (((Int32.toUInt32 ((((((a0 - (((((Int32.toUInt32 a0 >>> (Int32.toUInt32 1 &&& Int32.toUInt32 31)).toInt32)) &&& 1431655765)))) &&& 858993459)) + (((((Int32.toUInt32 ((a0 - (((((Int32.toUInt32 a0 >>> (Int32.toUInt32 1 &&& Int32.toUInt32 31)).toInt32)) &&& 1431655765)))) >>> (Int32.toUInt32 2 &&& Int32.toUInt32 31)).toInt32)) &&& 858993459)))) >>> (Int32.toUInt32 4 &&& Int32.toUInt32 31)).toInt32)))) &&& 252645135)) >>> (Int32.toUInt32 8 &&& Int32.toUInt32 31)).toInt32)))) + (((Int32.toUInt32 ((((((((((((a0 - (((((Int32.toUInt32 a0 >>> (Int32.toUInt32 1 &&& Int32.toUInt32 31)).toInt32)) &&& 1431655765)))) &&& 858993459)) + (((((Int32.toUInt32 ((a0 - (((((Int32.toUInt32 a0 >>> (Int32.toUInt32 1 &&& Int32.toUInt32 31)).toInt32)) &&& 1431655765)))) >>> (Int32.toUInt32 2 &&& Int32.toUInt32 31)).toInt32)) &&& 858993459)))) + (((Int32.toUInt32 ((((((a0 - (((((Int32.toUInt32 a0 >>> (Int32.toUInt32 1 &&& Int32.toUInt32 31)).toInt32)) &&& 1431655765)))) &&& 858993459)) + (((((Int32.toUInt32 ((a0 - (((((Int32.toUInt32 a0 >>> (Int32.toUInt32 1 &&& Int32.toUInt32 31)).toInt32)) &&& 1431655765)))) >>> (Int32.toUInt32 2 &&& Int32.toUInt32 31)).toInt32)) &&& 858993459)))) >>> (Int32.toUInt32 4 &&& Int32.toUInt32 31)).toInt32)))) &&& 252645135)) + (((Int32.toUInt32 ((((((((((a0 - (((((Int32.toUInt32 a0 >>> (Int32.toUInt32 1 &&& Int32.toUInt32 31)).toInt32)) &&& 1431655765)))) &&& 858993459)) + (((((Int32.toUInt32 ((a0 - (((((Int32.toUInt32 a0 >>> (Int32.toUInt32 1 &&& Int32.toUInt32 31)).toInt32)) &&& 1431655765)))) >>> (Int32.toUInt32 2 &&& Int32.toUInt32 31)).toInt32)) &&& 858993459)))) + (((Int32.toUInt32 ((((((a0 - (((((Int32.toUInt32 a0 >>> (Int32.toUInt32 1 &&& Int32.toUInt32 31)).toInt32)) &&& 1431655765)))) &&& 858993459)) + (((((Int32.toUInt32 ((a0 - (((((Int32.toUInt32 a0 >>> (Int32.toUInt32 1 &&& Int32.toUInt32 31)).toInt32)) &&& 1431655765)))) >>> (Int32.toUInt32 2 &&& Int32.toUInt32 31)).toInt32)) &&& 858993459)))) >>> (Int32.toUInt32 4 &&& Int32.toUInt32 31)).toInt32)))) &&& 252645135)) >>> (Int32.toUInt32 8 &&& Int32.toUInt32 31)).toInt32)))) >>> (Int32.toUInt32 16 &&& Int32.toUInt32 31)).toInt32)))) &&& 63)))), P)
def lay_J6_bitCount_0f7a4 : Nat → List Value → Option (xL × List Value)
  | 0, [a0] => some ([some a0], [])
  | _, _ => none
def f_J6_bitCount_0f7a4 : Nat → Nat → List Value → xH → xO
  | 0 => fun _ _ _ => none
  | n + 1 => fun pc env P => match pc, env with
    | 0, [.int a0] => b_J6_bitCount_0f7a4_0 n (f_J6_bitCount_0f7a4 n) a0 P
    | _, _ => none
set_option maxHeartbeats 2000000 in
set_option maxRecDepth 20000 in
theorem t_J6_bitCount_0f7a4_0 {G : xG} {l : Launch} (hl : l.stackTraces = false) {n : Nat} {rec : Nat → List Value → xH → xO} (hrec : ∀ pc env P z, rec pc env P = some z → ∀ L st, lay_J6_bitCount_0f7a4 pc env = some (L, st) → ∀ Q : xR → xH → Prop, Q z.1 z.2 → Wp G l 3 mJ6_bitCount_0f7a4 pc L st P Q) {a0} {P : xH} {z : xR × xH} (h : b_J6_bitCount_0f7a4_0 n rec a0 P = some z) {Q : xR → xH → Prop} (hQ : Q z.1 z.2) : Wp G l 3 mJ6_bitCount_0f7a4 0 [some (.int a0)] [] P Q := by
  unfold b_J6_bitCount_0f7a4_0 at h
  refine x_iload_n dJ6_bitCount_0f7a4_0 rfl ?_
  refine x_iload_n dJ6_bitCount_0f7a4_1 rfl ?_
  refine x_iconst 1 dJ6_bitCount_0f7a4_2 (by decide) ?_
  refine x_iushr dJ6_bitCount_0f7a4_3 ?_
  refine x_ldcw dJ6_bitCount_0f7a4_4 wconst_J6_265 ?_
  refine x_iand dJ6_bitCount_0f7a4_7 ?_
  refine x_isub dJ6_bitCount_0f7a4_8 ?_
  refine x_istore_n dJ6_bitCount_0f7a4_9 (Nat.le_of_ble_eq_true rfl) ?_
  refine x_iload_n dJ6_bitCount_0f7a4_10 rfl ?_
  refine x_ldcw dJ6_bitCount_0f7a4_11 wconst_J6_266 ?_
  refine x_iand dJ6_bitCount_0f7a4_14 ?_
  refine x_iload_n dJ6_bitCount_0f7a4_15 rfl ?_
  refine x_iconst 2 dJ6_bitCount_0f7a4_16 (by decide) ?_
  refine x_iushr dJ6_bitCount_0f7a4_17 ?_
  refine x_ldcw dJ6_bitCount_0f7a4_18 wconst_J6_266 ?_
  refine x_iand dJ6_bitCount_0f7a4_21 ?_
  refine x_iadd dJ6_bitCount_0f7a4_22 ?_
  refine x_istore_n dJ6_bitCount_0f7a4_23 (Nat.le_of_ble_eq_true rfl) ?_
  refine x_iload_n dJ6_bitCount_0f7a4_24 rfl ?_
  refine x_iload_n dJ6_bitCount_0f7a4_25 rfl ?_
  refine x_iconst 4 dJ6_bitCount_0f7a4_26 (by decide) ?_
  refine x_iushr dJ6_bitCount_0f7a4_27 ?_
  refine x_iadd dJ6_bitCount_0f7a4_28 ?_
  refine x_ldcw dJ6_bitCount_0f7a4_29 wconst_J6_267 ?_
  refine x_iand dJ6_bitCount_0f7a4_32 ?_
  refine x_istore_n dJ6_bitCount_0f7a4_33 (Nat.le_of_ble_eq_true rfl) ?_
  refine x_iload_n dJ6_bitCount_0f7a4_34 rfl ?_
  refine x_iload_n dJ6_bitCount_0f7a4_35 rfl ?_
  refine x_bipush 8 dJ6_bitCount_0f7a4_36 (by decide) ?_
  refine x_iushr dJ6_bitCount_0f7a4_38 ?_
  refine x_iadd dJ6_bitCount_0f7a4_39 ?_
  refine x_istore_n dJ6_bitCount_0f7a4_40 (Nat.le_of_ble_eq_true rfl) ?_
  refine x_iload_n dJ6_bitCount_0f7a4_41 rfl ?_
  refine x_iload_n dJ6_bitCount_0f7a4_42 rfl ?_
  refine x_bipush 16 dJ6_bitCount_0f7a4_43 (by decide) ?_
  refine x_iushr dJ6_bitCount_0f7a4_45 ?_
  refine x_iadd dJ6_bitCount_0f7a4_46 ?_
  refine x_istore_n dJ6_bitCount_0f7a4_47 (Nat.le_of_ble_eq_true rfl) ?_
  refine x_iload_n dJ6_bitCount_0f7a4_48 rfl ?_
  refine x_bipush 63 dJ6_bitCount_0f7a4_49 (by decide) ?_
  refine x_iand dJ6_bitCount_0f7a4_51 ?_
  cases h
  exact x_iret .int rfl rfl dJ6_bitCount_0f7a4_52 hQ
theorem s_J6_bitCount_0f7a4 {G : xG} {l : Launch} (hl : l.stackTraces = false) : ∀ n pc env P z, f_J6_bitCount_0f7a4 n pc env P = some z → ∀ L st, lay_J6_bitCount_0f7a4 pc env = some (L, st) → ∀ Q : xR → xH → Prop, Q z.1 z.2 → Wp G l 3 mJ6_bitCount_0f7a4 pc L st P Q := by
  intro n
  induction n with
  | zero => intro pc env P z h; cases h
  | succ n ih =>
    intro pc env P z h L st hlay Q hQ
    unfold f_J6_bitCount_0f7a4 at h
    split at h
    · cases hlay
      exact t_J6_bitCount_0f7a4_0 hl ih h hQ
    · cases h
theorem c_J6_bitCount_0f7a4 {G : xG} {l : Launch} (hl : l.stackTraces = false) {n : Nat} {as : List Value} {P : xH} {z : xR × xH} (h : f_J6_bitCount_0f7a4 n 0 as P = some z) : Ct G l 3 mJ6_bitCount_0f7a4 as P (fun r P1 => (r, P1) = z) := by
  cases n with
  | zero => cases h
  | succ n =>
    unfold f_J6_bitCount_0f7a4 at h
    split at h
    · exact Ct.of hl (by decide +kernel) wc_J6_bitCount_0f7a4 (Nat.le_of_ble_eq_true rfl) (t_J6_bitCount_0f7a4_0 hl (s_J6_bitCount_0f7a4 hl _) h rfl)
    all_goals first | (cases h; done) | (rename_i q9 _; exact absurd q9 (by decide)) | (rename_i q9; exact absurd q9 (by decide)) | contradiction
/-! QuakeNet$Sayings.isKnown(II)Z -/
def b_X6_isKnown_0 (n : Nat) (rec : Nat → List Value → xH → xO) (a0 : Nat) (a1 : Int32) (a2 : Int32) (P : xH) : xO :=
  (rA P a0 6 1).bind fun v1 =>
  (rA P v1 1 10).bind fun v3 =>
  (aI P v3 a1).bind fun v5 =>
  if v5 = ((-1)) then
    some (.inl (some (.int 0)), P)
  else
    (rA P a0 6 1).bind fun v7 =>
    (rA P v7 1 10).bind fun v9 =>
    (aI P v9 a1).bind fun v11 =>
    if a2 < v11 then
      some (.inl (some (.int 0)), P)
    else
      some (.inl (some (.int 1)), P)
def lay_X6_isKnown : Nat → List Value → Option (xL × List Value)
  | 0, [a0, a1, a2] => some ([some a0, some a1, some a2], [])
  | _, _ => none
def f_X6_isKnown : Nat → Nat → List Value → xH → xO
  | 0 => fun _ _ _ => none
  | n + 1 => fun pc env P => match pc, env with
    | 0, [.ref a0, .int a1, .int a2] => b_X6_isKnown_0 n (f_X6_isKnown n) a0 a1 a2 P
    | _, _ => none
set_option maxHeartbeats 2000000 in
set_option maxRecDepth 20000 in
theorem t_X6_isKnown_0 {G : xG} {l : Launch} (hl : l.stackTraces = false) {n : Nat} {rec : Nat → List Value → xH → xO} (hrec : ∀ pc env P z, rec pc env P = some z → ∀ L st, lay_X6_isKnown pc env = some (L, st) → ∀ Q : xR → xH → Prop, Q z.1 z.2 → Wp G l 3 mX6_isKnown pc L st P Q) {a0 a1 a2} {P : xH} {z : xR × xH} (h : b_X6_isKnown_0 n rec a0 a1 a2 P = some z) {Q : xR → xH → Prop} (hQ : Q z.1 z.2) : Wp G l 3 mX6_isKnown 0 [some (.ref a0), some (.int a1), some (.int a2)] [] P Q := by
  unfold b_X6_isKnown_0 at h
  refine x_aload_nr dX6_isKnown_0 rfl ?_
  obtain ⟨v1, e2, h⟩ := Option.bind_eq_some_iff.mp h
  refine k_rA e2 dX6_isKnown_1 f_X6_22 ?_
  obtain ⟨v3, e4, h⟩ := Option.bind_eq_some_iff.mp h
  refine k_rA e4 dX6_isKnown_4 f_X6_44 ?_
  refine x_iload_n dX6_isKnown_7 rfl ?_
  obtain ⟨v5, e6, h⟩ := Option.bind_eq_some_iff.mp h
  refine k_aI e6 dX6_isKnown_8 ?_
  refine x_iconst (-1) dX6_isKnown_9 (by decide) ?_
  refine x_icmp_eq 30 dX6_isKnown_10 (by decide) (fun q14 => ?_) (fun q14 => ?_)
  · rw [if_pos q14] at h
    refine x_iconst 0 dX6_isKnown_30 (by decide) ?_
    cases h
    exact x_iret .boolean rfl rfl dX6_isKnown_31 hQ
  · rw [if_neg q14] at h
    refine x_aload_nr dX6_isKnown_13 rfl ?_
    obtain ⟨v7, e8, h⟩ := Option.bind_eq_some_iff.mp h
    refine k_rA e8 dX6_isKnown_14 f_X6_22 ?_
    obtain ⟨v9, e10, h⟩ := Option.bind_eq_some_iff.mp h
    refine k_rA e10 dX6_isKnown_17 f_X6_44 ?_
    refine x_iload_n dX6_isKnown_20 rfl ?_
    obtain ⟨v11, e12, h⟩ := Option.bind_eq_some_iff.mp h
    refine k_aI e12 dX6_isKnown_21 ?_
    refine x_iload_n dX6_isKnown_22 rfl ?_
    refine x_icmp_gt 30 dX6_isKnown_23 (by decide) (fun q13 => ?_) (fun q13 => ?_)
    · rw [if_pos q13] at h
      refine x_iconst 0 dX6_isKnown_30 (by decide) ?_
      cases h
      exact x_iret .boolean rfl rfl dX6_isKnown_31 hQ
    · rw [if_neg q13] at h
      refine x_iconst 1 dX6_isKnown_26 (by decide) ?_
      refine x_goto 31 dX6_isKnown_27 (by decide) ?_
      cases h
      exact x_iret .boolean rfl rfl dX6_isKnown_31 hQ
theorem s_X6_isKnown {G : xG} {l : Launch} (hl : l.stackTraces = false) : ∀ n pc env P z, f_X6_isKnown n pc env P = some z → ∀ L st, lay_X6_isKnown pc env = some (L, st) → ∀ Q : xR → xH → Prop, Q z.1 z.2 → Wp G l 3 mX6_isKnown pc L st P Q := by
  intro n
  induction n with
  | zero => intro pc env P z h; cases h
  | succ n ih =>
    intro pc env P z h L st hlay Q hQ
    unfold f_X6_isKnown at h
    split at h
    · cases hlay
      exact t_X6_isKnown_0 hl ih h hQ
    · cases h
theorem c_X6_isKnown {G : xG} {l : Launch} (hl : l.stackTraces = false) {n : Nat} {as : List Value} {P : xH} {z : xR × xH} (h : f_X6_isKnown n 0 as P = some z) : Ct G l 3 mX6_isKnown as P (fun r P1 => (r, P1) = z) := by
  cases n with
  | zero => cases h
  | succ n =>
    unfold f_X6_isKnown at h
    split at h
    · exact Ct.of hl (by decide +kernel) wc_X6_isKnown (Nat.le_of_ble_eq_true rfl) (t_X6_isKnown_0 hl (s_X6_isKnown hl _) h rfl)
    all_goals first | (cases h; done) | (rename_i q9 _; exact absurd q9 (by decide)) | (rename_i q9; exact absurd q9 (by decide)) | contradiction
/-! QuakeNet$Sayings.isUndone(II)Z -/
def b_X6_isUndone_0 (n : Nat) (rec : Nat → List Value → xH → xO) (a0 : Nat) (a1 : Int32) (a2 : Int32) (P : xH) : xO :=
  rec 4 [.ref a0, .int a1, .int a2, .int ((a1 + 1))] P
def b_X6_isUndone_4 (n : Nat) (rec : Nat → List Value → xH → xO) (a0 : Nat) (a1 : Int32) (a2 : Int32) (a3 : Int32) (P : xH) : xO :=
  (rA P a0 6 0).bind fun v1 =>
  (rI P v1 9 3).bind fun v3 =>
  if v3 ≤ a3 then
    some (.inl (some (.int 0)), P)
  else
    (rA P a0 6 0).bind fun v5 =>
    (rA P v5 9 0).bind fun v7 =>
    (aA P v7 8).bind fun v9 =>
    (aI P v9 a3).bind fun v11 =>
    if ¬ v11 = a1 then
      rec 4 [.ref a0, .int a1, .int a2, .int ((a3 + 1))] P
    else
      (kO P a0 6).bind fun _ =>
      (f_X6_isKnown n 0 [.ref a0, .int a3, .int a2] P).bind fun r14 => xI r14 fun v16 P13 =>
      if v16 = 0 then
        rec 4 [.ref a0, .int a1, .int a2, .int ((a3 + 1))] P13
      else
        some (.inl (some (.int 1)), P13)
def lay_X6_isUndone : Nat → List Value → Option (xL × List Value)
  | 0, [a0, a1, a2] => some ([some a0, some a1, some a2, none], [])
  | 4, [a0, a1, a2, a3] => some ([some a0, some a1, some a2, some a3], [])
  | _, _ => none
def f_X6_isUndone : Nat → Nat → List Value → xH → xO
  | 0 => fun _ _ _ => none
  | n + 1 => fun pc env P => match pc, env with
    | 0, [.ref a0, .int a1, .int a2] => b_X6_isUndone_0 n (f_X6_isUndone n) a0 a1 a2 P
    | 4, [.ref a0, .int a1, .int a2, .int a3] => b_X6_isUndone_4 n (f_X6_isUndone n) a0 a1 a2 a3 P
    | _, _ => none
set_option maxHeartbeats 2000000 in
set_option maxRecDepth 20000 in
theorem t_X6_isUndone_0 {G : xG} {l : Launch} (hl : l.stackTraces = false) {n : Nat} {rec : Nat → List Value → xH → xO} (hrec : ∀ pc env P z, rec pc env P = some z → ∀ L st, lay_X6_isUndone pc env = some (L, st) → ∀ Q : xR → xH → Prop, Q z.1 z.2 → Wp G l 4 mX6_isUndone pc L st P Q) {a0 a1 a2} {P : xH} {z : xR × xH} (h : b_X6_isUndone_0 n rec a0 a1 a2 P = some z) {Q : xR → xH → Prop} (hQ : Q z.1 z.2) : Wp G l 4 mX6_isUndone 0 [some (.ref a0), some (.int a1), some (.int a2), none] [] P Q := by
  unfold b_X6_isUndone_0 at h
  refine x_iload_n dX6_isUndone_0 rfl ?_
  refine x_iconst 1 dX6_isUndone_1 (by decide) ?_
  refine x_iadd dX6_isUndone_2 ?_
  refine x_istore_n dX6_isUndone_3 (Nat.le_of_ble_eq_true rfl) ?_
  exact Wp.mask [true, true, true, true] (hrec 4 _ _ _ h _ _ rfl _ hQ)
set_option maxHeartbeats 2000000 in
set_option maxRecDepth 20000 in
theorem t_X6_isUndone_4 {G : xG} {l : Launch} (hl : l.stackTraces = false) {n : Nat} {rec : Nat → List Value → xH → xO} (hrec : ∀ pc env P z, rec pc env P = some z → ∀ L st, lay_X6_isUndone pc env = some (L, st) → ∀ Q : xR → xH → Prop, Q z.1 z.2 → Wp G l 4 mX6_isUndone pc L st P Q) {a0 a1 a2 a3} {P : xH} {z : xR × xH} (h : b_X6_isUndone_4 n rec a0 a1 a2 a3 P = some z) {Q : xR → xH → Prop} (hQ : Q z.1 z.2) : Wp G l 4 mX6_isUndone 4 [some (.ref a0), some (.int a1), some (.int a2), some (.int a3)] [] P Q := by
  unfold b_X6_isUndone_4 at h
  refine x_iload_n dX6_isUndone_4 rfl ?_
  refine x_aload_nr dX6_isUndone_5 rfl ?_
  obtain ⟨v1, e2, h⟩ := Option.bind_eq_some_iff.mp h
  refine k_rA e2 dX6_isUndone_6 f_X6_18 ?_
  obtain ⟨v3, e4, h⟩ := Option.bind_eq_some_iff.mp h
  refine k_rI e4 dX6_isUndone_9 f_X6_30 ?_
  refine x_icmp_ge 48 dX6_isUndone_12 (by decide) (fun q20 => ?_) (fun q20 => ?_)
  · rw [if_pos q20] at h
    refine x_iconst 0 dX6_isUndone_48 (by decide) ?_
    cases h
    exact x_iret .boolean rfl rfl dX6_isUndone_49 hQ
  · rw [if_neg q20] at h
    refine x_aload_nr dX6_isUndone_15 rfl ?_
    obtain ⟨v5, e6, h⟩ := Option.bind_eq_some_iff.mp h
    refine k_rA e6 dX6_isUndone_16 f_X6_18 ?_
    obtain ⟨v7, e8, h⟩ := Option.bind_eq_some_iff.mp h
    refine k_rA e8 dX6_isUndone_19 f_X6_33 ?_
    refine x_bipush 8 dX6_isUndone_22 (by decide) ?_
    obtain ⟨v9, e10, h⟩ := Option.bind_eq_some_iff.mp h
    refine k_aA e10 dX6_isUndone_24 ?_
    refine x_iload_n dX6_isUndone_25 rfl ?_
    obtain ⟨v11, e12, h⟩ := Option.bind_eq_some_iff.mp h
    refine k_aI e12 dX6_isUndone_26 ?_
    refine x_iload_n dX6_isUndone_27 rfl ?_
    refine x_icmp_ne 42 dX6_isUndone_28 (by decide) (fun q19 => ?_) (fun q19 => ?_)
    · rw [if_pos q19] at h
      refine x_iinc (a3 + 1) dX6_isUndone_42 rfl (by rfl) ?_
      refine x_goto 4 dX6_isUndone_45 (by decide) ?_
      exact Wp.mask [true, true, true, true] (hrec 4 _ _ _ h _ _ rfl _ hQ)
    · rw [if_neg (fun z9 => z9 q19)] at h
      refine x_aload_nr dX6_isUndone_31 rfl ?_
      refine x_iload_n dX6_isUndone_32 rfl ?_
      refine x_iload_n dX6_isUndone_33 rfl ?_
      obtain ⟨_, e17, h⟩ := Option.bind_eq_some_iff.mp h
      obtain ⟨fse17, e17⟩ := kO_ok e17
      obtain ⟨r14, e15, h⟩ := Option.bind_eq_some_iff.mp h
      replace h := xI_ok h
      obtain ⟨v16, P13, rfl, h⟩ := h
      refine x_callV (c_X6_isKnown hl e15) dX6_isUndone_34 cw_X6_isKnown wl_X6_37 wi_X6_isKnown wse_X6_isKnown rfl e17 (by decide) rfl (by omega) (by decide) rfl (Nat.le_of_ble_eq_true rfl) rfl (fun v9 P9 hq9 => ?_) (fun i9 P9 hq9 => by cases hq9)
      cases hq9
      refine x_if_eq 42 dX6_isUndone_37 (by decide) (fun q18 => ?_) (fun q18 => ?_)
      · rw [if_pos q18] at h
        refine x_iinc (a3 + 1) dX6_isUndone_42 rfl (by rfl) ?_
        refine x_goto 4 dX6_isUndone_45 (by decide) ?_
        exact Wp.mask [true, true, true, true] (hrec 4 _ _ _ h _ _ rfl _ hQ)
      · rw [if_neg q18] at h
        refine x_iconst 1 dX6_isUndone_40 (by decide) ?_
        cases h
        exact x_iret .boolean rfl rfl dX6_isUndone_41 hQ
theorem s_X6_isUndone {G : xG} {l : Launch} (hl : l.stackTraces = false) : ∀ n pc env P z, f_X6_isUndone n pc env P = some z → ∀ L st, lay_X6_isUndone pc env = some (L, st) → ∀ Q : xR → xH → Prop, Q z.1 z.2 → Wp G l 4 mX6_isUndone pc L st P Q := by
  intro n
  induction n with
  | zero => intro pc env P z h; cases h
  | succ n ih =>
    intro pc env P z h L st hlay Q hQ
    unfold f_X6_isUndone at h
    split at h
    · cases hlay
      exact t_X6_isUndone_0 hl ih h hQ
    · cases hlay
      exact t_X6_isUndone_4 hl ih h hQ
    · cases h
theorem c_X6_isUndone {G : xG} {l : Launch} (hl : l.stackTraces = false) {n : Nat} {as : List Value} {P : xH} {z : xR × xH} (h : f_X6_isUndone n 0 as P = some z) : Ct G l 4 mX6_isUndone as P (fun r P1 => (r, P1) = z) := by
  cases n with
  | zero => cases h
  | succ n =>
    unfold f_X6_isUndone at h
    split at h
    · exact Ct.of hl (by decide +kernel) wc_X6_isUndone (Nat.le_of_ble_eq_true rfl) (t_X6_isUndone_0 hl (s_X6_isUndone hl _) h rfl)
    all_goals first | (cases h; done) | (rename_i q9 _; exact absurd q9 (by decide)) | (rename_i q9; exact absurd q9 (by decide)) | contradiction
/-! QuakeNet$Sayings.gather(II)V -/
def b_X6_gather_0 (n : Nat) (rec : Nat → List Value → xH → xO) (a0 : Nat) (a1 : Int32) (a2 : Int32) (P : xH) : xO :=
  (wV P a0 6 4 (.int 0)).bind fun P1 =>
  rec 7 [.ref a0, .int a1, .int a2, .int 0] P1
def b_X6_gather_7 (n : Nat) (rec : Nat → List Value → xH → xO) (a0 : Nat) (a1 : Int32) (a2 : Int32) (a3 : Int32) (P : xH) : xO :=
  (rA P a0 6 0).bind fun v1 =>
  (rI P v1 9 3).bind fun v3 =>
  if v3 ≤ a3 then
    some (.inl none, P)
  else
    (rA P a0 6 0).bind fun v5 =>
    (rA P v5 9 0).bind fun v7 =>
    (aA P v7 0).bind fun v9 =>
    (aI P v9 a3).bind fun v11 =>
    if 1 < v11 then
      rec 53 [.ref a0, .int a1, .int a2, .int a3, .int 0] P
    else
      (rA P a0 6 0).bind fun v13 =>
      (rA P v13 9 0).bind fun v15 =>
      (aA P v15 4).bind fun v17 =>
      (aI P v17 a3).bind fun v19 =>
      if ¬ v19 = a1 then
        rec 53 [.ref a0, .int a1, .int a2, .int a3, .int 0] P
      else
        rec 53 [.ref a0, .int a1, .int a2, .int a3, .int 1] P
def b_X6_gather_53 (n : Nat) (rec : Nat → List Value → xH → xO) (a0 : Nat) (a1 : Int32) (a2 : Int32) (a3 : Int32) (s0 : Int32) (P : xH) : xO :=
  if s0 = 0 then
    rec 7 [.ref a0, .int a1, .int a2, .int ((a3 + 1))] P
  else
    (kO P a0 6).bind fun _ =>
    (f_X6_isKnown n 0 [.ref a0, .int a3, .int a2] P).bind fun r2 => xI r2 fun v4 P1 =>
    if v4 = 0 then
      rec 7 [.ref a0, .int a1, .int a2, .int ((a3 + 1))] P1
    else
      (kO P1 a0 6).bind fun _ =>
      (f_X6_isUndone n 0 [.ref a0, .int a3, .int a2] P1).bind fun r7 => xI r7 fun v9 P6 =>
      if ¬ v9 = 0 then
        rec 7 [.ref a0, .int a1, .int a2, .int ((a3 + 1))] P6
      else
        (rA P6 a0 6 2).bind fun v11 =>
        (rI P6 a0 6 4).bind fun v13 =>
        (sI P6 v11 v13 a3).bind fun P15 =>
        (rI P15 a0 6 4).bind fun v17 =>
        (wV P15 a0 6 4 (.int ((v17 + 1)))).bind fun P19 =>
        rec 7 [.ref a0, .int a1, .int a2, .int ((a3 + 1))] P19
def lay_X6_gather : Nat → List Value → Option (xL × List Value)
  | 0, [a0, a1, a2] => some ([some a0, some a1, some a2, none, none], [])
  | 7, [a0, a1, a2, a3] => some ([some a0, some a1, some a2, some a3, none], [])
  | 53, [a0, a1, a2, a3, s0] => some ([some a0, some a1, some a2, some a3, none], [s0])
  | _, _ => none
def f_X6_gather : Nat → Nat → List Value → xH → xO
  | 0 => fun _ _ _ => none
  | n + 1 => fun pc env P => match pc, env with
    | 0, [.ref a0, .int a1, .int a2] => b_X6_gather_0 n (f_X6_gather n) a0 a1 a2 P
    | 7, [.ref a0, .int a1, .int a2, .int a3] => b_X6_gather_7 n (f_X6_gather n) a0 a1 a2 a3 P
    | 53, [.ref a0, .int a1, .int a2, .int a3, .int s0] => b_X6_gather_53 n (f_X6_gather n) a0 a1 a2 a3 s0 P
    | _, _ => none
set_option maxHeartbeats 2000000 in
set_option maxRecDepth 20000 in
theorem t_X6_gather_0 {G : xG} {l : Launch} (hl : l.stackTraces = false) {n : Nat} {rec : Nat → List Value → xH → xO} (hrec : ∀ pc env P z, rec pc env P = some z → ∀ L st, lay_X6_gather pc env = some (L, st) → ∀ Q : xR → xH → Prop, Q z.1 z.2 → Wp G l 5 mX6_gather pc L st P Q) {a0 a1 a2} {P : xH} {z : xR × xH} (h : b_X6_gather_0 n rec a0 a1 a2 P = some z) {Q : xR → xH → Prop} (hQ : Q z.1 z.2) : Wp G l 5 mX6_gather 0 [some (.ref a0), some (.int a1), some (.int a2), none, none] [] P Q := by
  unfold b_X6_gather_0 at h
  refine x_aload_nr dX6_gather_0 rfl ?_
  refine x_iconst 0 dX6_gather_1 (by decide) ?_
  obtain ⟨P1, e2, h⟩ := Option.bind_eq_some_iff.mp h
  refine k_wI e2 dX6_gather_2 f_X6_26 (Or.inl (by decide)) rfl ?_
  refine x_iconst 0 dX6_gather_5 (by decide) ?_
  refine x_istore_n dX6_gather_6 (Nat.le_of_ble_eq_true rfl) ?_
  exact Wp.mask [true, true, true, true, false] (hrec 7 _ _ _ h _ _ rfl _ hQ)
set_option maxHeartbeats 2000000 in
set_option maxRecDepth 20000 in
theorem t_X6_gather_7 {G : xG} {l : Launch} (hl : l.stackTraces = false) {n : Nat} {rec : Nat → List Value → xH → xO} (hrec : ∀ pc env P z, rec pc env P = some z → ∀ L st, lay_X6_gather pc env = some (L, st) → ∀ Q : xR → xH → Prop, Q z.1 z.2 → Wp G l 5 mX6_gather pc L st P Q) {a0 a1 a2 a3} {P : xH} {z : xR × xH} (h : b_X6_gather_7 n rec a0 a1 a2 a3 P = some z) {Q : xR → xH → Prop} (hQ : Q z.1 z.2) : Wp G l 5 mX6_gather 7 [some (.ref a0), some (.int a1), some (.int a2), some (.int a3), none] [] P Q := by
  unfold b_X6_gather_7 at h
  refine x_iload_n dX6_gather_7 rfl ?_
  refine x_aload_nr dX6_gather_8 rfl ?_
  obtain ⟨v1, e2, h⟩ := Option.bind_eq_some_iff.mp h
  refine k_rA e2 dX6_gather_9 f_X6_18 ?_
  obtain ⟨v3, e4, h⟩ := Option.bind_eq_some_iff.mp h
  refine k_rI e4 dX6_gather_12 f_X6_30 ?_
  refine x_icmp_ge 104 dX6_gather_15 (by decide) (fun q23 => ?_) (fun q23 => ?_)
  · rw [if_pos q23] at h
    cases h
    exact x_ret rfl dX6_gather_104 hQ
  · rw [if_neg q23] at h
    refine x_aload_nr dX6_gather_18 rfl ?_
    obtain ⟨v5, e6, h⟩ := Option.bind_eq_some_iff.mp h
    refine k_rA e6 dX6_gather_19 f_X6_18 ?_
    obtain ⟨v7, e8, h⟩ := Option.bind_eq_some_iff.mp h
    refine k_rA e8 dX6_gather_22 f_X6_33 ?_
    refine x_iconst 0 dX6_gather_25 (by decide) ?_
    obtain ⟨v9, e10, h⟩ := Option.bind_eq_some_iff.mp h
    refine k_aA e10 dX6_gather_26 ?_
    refine x_iload_n dX6_gather_27 rfl ?_
    obtain ⟨v11, e12, h⟩ := Option.bind_eq_some_iff.mp h
    refine k_aI e12 dX6_gather_28 ?_
    refine x_iconst 1 dX6_gather_29 (by decide) ?_
    refine x_icmp_gt 52 dX6_gather_30 (by decide) (fun q22 => ?_) (fun q22 => ?_)
    · rw [if_pos q22] at h
      refine x_iconst 0 dX6_gather_52 (by decide) ?_
      exact Wp.mask [true, true, true, true, false] (hrec 53 _ _ _ h _ _ rfl _ hQ)
    · rw [if_neg q22] at h
      refine x_aload_nr dX6_gather_33 rfl ?_
      obtain ⟨v13, e14, h⟩ := Option.bind_eq_some_iff.mp h
      refine k_rA e14 dX6_gather_34 f_X6_18 ?_
      obtain ⟨v15, e16, h⟩ := Option.bind_eq_some_iff.mp h
      refine k_rA e16 dX6_gather_37 f_X6_33 ?_
      refine x_iconst 4 dX6_gather_40 (by decide) ?_
      obtain ⟨v17, e18, h⟩ := Option.bind_eq_some_iff.mp h
      refine k_aA e18 dX6_gather_41 ?_
      refine x_iload_n dX6_gather_42 rfl ?_
      obtain ⟨v19, e20, h⟩ := Option.bind_eq_some_iff.mp h
      refine k_aI e20 dX6_gather_43 ?_
      refine x_iload_n dX6_gather_44 rfl ?_
      refine x_icmp_ne 52 dX6_gather_45 (by decide) (fun q21 => ?_) (fun q21 => ?_)
      · rw [if_pos q21] at h
        refine x_iconst 0 dX6_gather_52 (by decide) ?_
        exact Wp.mask [true, true, true, true, false] (hrec 53 _ _ _ h _ _ rfl _ hQ)
      · rw [if_neg (fun z9 => z9 q21)] at h
        refine x_iconst 1 dX6_gather_48 (by decide) ?_
        refine x_goto 53 dX6_gather_49 (by decide) ?_
        exact Wp.mask [true, true, true, true, false] (hrec 53 _ _ _ h _ _ rfl _ hQ)
set_option maxHeartbeats 2000000 in
set_option maxRecDepth 20000 in
theorem t_X6_gather_53 {G : xG} {l : Launch} (hl : l.stackTraces = false) {n : Nat} {rec : Nat → List Value → xH → xO} (hrec : ∀ pc env P z, rec pc env P = some z → ∀ L st, lay_X6_gather pc env = some (L, st) → ∀ Q : xR → xH → Prop, Q z.1 z.2 → Wp G l 5 mX6_gather pc L st P Q) {a0 a1 a2 a3 s0} {P : xH} {z : xR × xH} (h : b_X6_gather_53 n rec a0 a1 a2 a3 s0 P = some z) {Q : xR → xH → Prop} (hQ : Q z.1 z.2) : Wp G l 5 mX6_gather 53 [some (.ref a0), some (.int a1), some (.int a2), some (.int a3), none] [.int s0] P Q := by
  unfold b_X6_gather_53 at h
  refine x_istore dX6_gather_53 (Nat.le_of_ble_eq_true rfl) ?_
  refine x_iload dX6_gather_55 rfl ?_
  refine x_if_eq 98 dX6_gather_57 (by decide) (fun q23 => ?_) (fun q23 => ?_)
  · rw [if_pos q23] at h
    refine x_iinc (a3 + 1) dX6_gather_98 rfl (by rfl) ?_
    refine x_goto 7 dX6_gather_101 (by decide) ?_
    exact Wp.mask [true, true, true, true, false] (hrec 7 _ _ _ h _ _ rfl _ hQ)
  · rw [if_neg q23] at h
    refine x_aload_nr dX6_gather_60 rfl ?_
    refine x_iload_n dX6_gather_61 rfl ?_
    refine x_iload_n dX6_gather_62 rfl ?_
    obtain ⟨_, e5, h⟩ := Option.bind_eq_some_iff.mp h
    obtain ⟨fse5, e5⟩ := kO_ok e5
    obtain ⟨r2, e3, h⟩ := Option.bind_eq_some_iff.mp h
    replace h := xI_ok h
    obtain ⟨v4, P1, rfl, h⟩ := h
    refine x_callV (c_X6_isKnown hl e3) dX6_gather_63 cw_X6_isKnown wl_X6_37 wi_X6_isKnown wse_X6_isKnown rfl e5 (by decide) rfl (by omega) (by decide) rfl (Nat.le_of_ble_eq_true rfl) rfl (fun v9 P9 hq9 => ?_) (fun i9 P9 hq9 => by cases hq9)
    cases hq9
    refine x_if_eq 98 dX6_gather_66 (by decide) (fun q22 => ?_) (fun q22 => ?_)
    · rw [if_pos q22] at h
      refine x_iinc (a3 + 1) dX6_gather_98 rfl (by rfl) ?_
      refine x_goto 7 dX6_gather_101 (by decide) ?_
      exact Wp.mask [true, true, true, true, false] (hrec 7 _ _ _ h _ _ rfl _ hQ)
    · rw [if_neg q22] at h
      refine x_aload_nr dX6_gather_69 rfl ?_
      refine x_iload_n dX6_gather_70 rfl ?_
      refine x_iload_n dX6_gather_71 rfl ?_
      obtain ⟨_, e10, h⟩ := Option.bind_eq_some_iff.mp h
      obtain ⟨fse10, e10⟩ := kO_ok e10
      obtain ⟨r7, e8, h⟩ := Option.bind_eq_some_iff.mp h
      replace h := xI_ok h
      obtain ⟨v9, P6, rfl, h⟩ := h
      refine x_callV (c_X6_isUndone hl e8) dX6_gather_72 cw_X6_isUndone wl_X6_41 wi_X6_isUndone wse_X6_isUndone rfl e10 (by decide) rfl (by omega) (by decide) rfl (Nat.le_of_ble_eq_true rfl) rfl (fun v9 P9 hq9 => ?_) (fun i9 P9 hq9 => by cases hq9)
      cases hq9
      refine x_if_ne 98 dX6_gather_75 (by decide) (fun q21 => ?_) (fun q21 => ?_)
      · rw [if_pos q21] at h
        refine x_iinc (a3 + 1) dX6_gather_98 rfl (by rfl) ?_
        refine x_goto 7 dX6_gather_101 (by decide) ?_
        exact Wp.mask [true, true, true, true, false] (hrec 7 _ _ _ h _ _ rfl _ hQ)
      · rw [if_neg (fun z9 => z9 q21)] at h
        refine x_aload_nr dX6_gather_78 rfl ?_
        obtain ⟨v11, e12, h⟩ := Option.bind_eq_some_iff.mp h
        refine k_rA e12 dX6_gather_79 f_X6_9 ?_
        refine x_aload_nr dX6_gather_82 rfl ?_
        obtain ⟨v13, e14, h⟩ := Option.bind_eq_some_iff.mp h
        refine k_rI e14 dX6_gather_83 f_X6_26 ?_
        refine x_iload_n dX6_gather_86 rfl ?_
        obtain ⟨P15, e16, h⟩ := Option.bind_eq_some_iff.mp h
        refine k_sI e16 dX6_gather_87 ?_
        refine x_aload_nr dX6_gather_88 rfl ?_
        refine x_dup dX6_gather_89 rfl ?_
        obtain ⟨v17, e18, h⟩ := Option.bind_eq_some_iff.mp h
        refine k_rI e18 dX6_gather_90 f_X6_26 ?_
        refine x_iconst 1 dX6_gather_93 (by decide) ?_
        refine x_iadd dX6_gather_94 ?_
        obtain ⟨P19, e20, h⟩ := Option.bind_eq_some_iff.mp h
        refine k_wI e20 dX6_gather_95 f_X6_26 (Or.inl (by decide)) rfl ?_
        refine x_iinc (a3 + 1) dX6_gather_98 rfl (by rfl) ?_
        refine x_goto 7 dX6_gather_101 (by decide) ?_
        exact Wp.mask [true, true, true, true, false] (hrec 7 _ _ _ h _ _ rfl _ hQ)
theorem s_X6_gather {G : xG} {l : Launch} (hl : l.stackTraces = false) : ∀ n pc env P z, f_X6_gather n pc env P = some z → ∀ L st, lay_X6_gather pc env = some (L, st) → ∀ Q : xR → xH → Prop, Q z.1 z.2 → Wp G l 5 mX6_gather pc L st P Q := by
  intro n
  induction n with
  | zero => intro pc env P z h; cases h
  | succ n ih =>
    intro pc env P z h L st hlay Q hQ
    unfold f_X6_gather at h
    split at h
    · cases hlay
      exact t_X6_gather_0 hl ih h hQ
    · cases hlay
      exact t_X6_gather_7 hl ih h hQ
    · cases hlay
      exact t_X6_gather_53 hl ih h hQ
    · cases h
theorem c_X6_gather {G : xG} {l : Launch} (hl : l.stackTraces = false) {n : Nat} {as : List Value} {P : xH} {z : xR × xH} (h : f_X6_gather n 0 as P = some z) : Ct G l 5 mX6_gather as P (fun r P1 => (r, P1) = z) := by
  cases n with
  | zero => cases h
  | succ n =>
    unfold f_X6_gather at h
    split at h
    · exact Ct.of hl (by decide +kernel) wc_X6_gather (Nat.le_of_ble_eq_true rfl) (t_X6_gather_0 hl (s_X6_gather hl _) h rfl)
    all_goals first | (cases h; done) | (rename_i q9 _; exact absurd q9 (by decide)) | (rename_i q9; exact absurd q9 (by decide)) | contradiction
/-! QuakeNet$Sayings.mouthsAt(I)I -/
def b_X6_mouthsAt_0 (n : Nat) (rec : Nat → List Value → xH → xO) (a0 : Nat) (a1 : Int32) (P : xH) : xO :=
  rec 4 [.ref a0, .int a1, .int 0, .int 0] P
def b_X6_mouthsAt_4 (n : Nat) (rec : Nat → List Value → xH → xO) (a0 : Nat) (a1 : Int32) (a2 : Int32) (a3 : Int32) (P : xH) : xO :=
  (rI P a0 6 4).bind fun v1 =>
  if v1 ≤ a3 then
    some (.inl (some (.int a2)), P)
  else
    if a1 = ((-1)) then
      rec 37 [.ref a0, .int a1, .int a2, .int a3] P
    else
      (rA P a0 6 0).bind fun v3 =>
      (rA P v3 9 0).bind fun v5 =>
      (aA P v5 5).bind fun v7 =>
      (rA P a0 6 2).bind fun v9 =>
      (aI P v9 a3).bind fun v11 =>
      (aI P v7 v11).bind fun v13 =>
      if ¬ v13 = a1 then
        rec 4 [.ref a0, .int a1, .int a2, .int ((a3 + 1))] P
      else
        rec 37 [.ref a0, .int a1, .int a2, .int a3] P
def b_X6_mouthsAt_37 (n : Nat) (rec : Nat → List Value → xH → xO) (a0 : Nat) (a1 : Int32) (a2 : Int32) (a3 : Int32) (P : xH) : xO :=
  (rA P a0 6 0).bind fun v1 =>
  (rA P v1 9 0).bind fun v3 =>
  (aA P v3 1).bind fun v5 =>
  (rA P a0 6 2).bind fun v7 =>
  (aI P v7 a3).bind fun v9 =>
  (aI P v5 v9).bind fun v11 =>
  rec 4 [.ref a0, .int a1, .int ((a2 ||| ((1 <<< (v11 &&& 31))))), .int ((a3 + 1))] P
def lay_X6_mouthsAt : Nat → List Value → Option (xL × List Value)
  | 0, [a0, a1] => some ([some a0, some a1, none, none], [])
  | 4, [a0, a1, a2, a3] => some ([some a0, some a1, some a2, some a3], [])
  | 37, [a0, a1, a2, a3] => some ([some a0, some a1, some a2, some a3], [])
  | _, _ => none
def f_X6_mouthsAt : Nat → Nat → List Value → xH → xO
  | 0 => fun _ _ _ => none
  | n + 1 => fun pc env P => match pc, env with
    | 0, [.ref a0, .int a1] => b_X6_mouthsAt_0 n (f_X6_mouthsAt n) a0 a1 P
    | 4, [.ref a0, .int a1, .int a2, .int a3] => b_X6_mouthsAt_4 n (f_X6_mouthsAt n) a0 a1 a2 a3 P
    | 37, [.ref a0, .int a1, .int a2, .int a3] => b_X6_mouthsAt_37 n (f_X6_mouthsAt n) a0 a1 a2 a3 P
    | _, _ => none
set_option maxHeartbeats 2000000 in
set_option maxRecDepth 20000 in
theorem t_X6_mouthsAt_0 {G : xG} {l : Launch} (hl : l.stackTraces = false) {n : Nat} {rec : Nat → List Value → xH → xO} (hrec : ∀ pc env P z, rec pc env P = some z → ∀ L st, lay_X6_mouthsAt pc env = some (L, st) → ∀ Q : xR → xH → Prop, Q z.1 z.2 → Wp G l 3 mX6_mouthsAt pc L st P Q) {a0 a1} {P : xH} {z : xR × xH} (h : b_X6_mouthsAt_0 n rec a0 a1 P = some z) {Q : xR → xH → Prop} (hQ : Q z.1 z.2) : Wp G l 3 mX6_mouthsAt 0 [some (.ref a0), some (.int a1), none, none] [] P Q := by
  unfold b_X6_mouthsAt_0 at h
  refine x_iconst 0 dX6_mouthsAt_0 (by decide) ?_
  refine x_istore_n dX6_mouthsAt_1 (Nat.le_of_ble_eq_true rfl) ?_
  refine x_iconst 0 dX6_mouthsAt_2 (by decide) ?_
  refine x_istore_n dX6_mouthsAt_3 (Nat.le_of_ble_eq_true rfl) ?_
  exact Wp.mask [true, true, true, true] (hrec 4 _ _ _ h _ _ rfl _ hQ)
set_option maxHeartbeats 2000000 in
set_option maxRecDepth 20000 in
theorem t_X6_mouthsAt_4 {G : xG} {l : Launch} (hl : l.stackTraces = false) {n : Nat} {rec : Nat → List Value → xH → xO} (hrec : ∀ pc env P z, rec pc env P = some z → ∀ L st, lay_X6_mouthsAt pc env = some (L, st) → ∀ Q : xR → xH → Prop, Q z.1 z.2 → Wp G l 3 mX6_mouthsAt pc L st P Q) {a0 a1 a2 a3} {P : xH} {z : xR × xH} (h : b_X6_mouthsAt_4 n rec a0 a1 a2 a3 P = some z) {Q : xR → xH → Prop} (hQ : Q z.1 z.2) : Wp G l 3 mX6_mouthsAt 4 [some (.ref a0), some (.int a1), some (.int a2), some (.int a3)] [] P Q := by
  unfold b_X6_mouthsAt_4 at h
  refine x_iload_n dX6_mouthsAt_4 rfl ?_
  refine x_aload_nr dX6_mouthsAt_5 rfl ?_
  obtain ⟨v1, e2, h⟩ := Option.bind_eq_some_iff.mp h
  refine k_rI e2 dX6_mouthsAt_6 f_X6_26 ?_
  refine x_icmp_ge 64 dX6_mouthsAt_9 (by decide) (fun q17 => ?_) (fun q17 => ?_)
  · rw [if_pos q17] at h
    refine x_iload_n dX6_mouthsAt_64 rfl ?_
    cases h
    exact x_iret .int rfl rfl dX6_mouthsAt_65 hQ
  · rw [if_neg q17] at h
    refine x_iload_n dX6_mouthsAt_12 rfl ?_
    refine x_iconst (-1) dX6_mouthsAt_13 (by decide) ?_
    refine x_icmp_eq 37 dX6_mouthsAt_14 (by decide) (fun q16 => ?_) (fun q16 => ?_)
    · rw [if_pos q16] at h
      exact Wp.mask [true, true, true, true] (hrec 37 _ _ _ h _ _ rfl _ hQ)
    · rw [if_neg q16] at h
      refine x_aload_nr dX6_mouthsAt_17 rfl ?_
      obtain ⟨v3, e4, h⟩ := Option.bind_eq_some_iff.mp h
      refine k_rA e4 dX6_mouthsAt_18 f_X6_18 ?_
      obtain ⟨v5, e6, h⟩ := Option.bind_eq_some_iff.mp h
      refine k_rA e6 dX6_mouthsAt_21 f_X6_33 ?_
      refine x_iconst 5 dX6_mouthsAt_24 (by decide) ?_
      obtain ⟨v7, e8, h⟩ := Option.bind_eq_some_iff.mp h
      refine k_aA e8 dX6_mouthsAt_25 ?_
      refine x_aload_nr dX6_mouthsAt_26 rfl ?_
      obtain ⟨v9, e10, h⟩ := Option.bind_eq_some_iff.mp h
      refine k_rA e10 dX6_mouthsAt_27 f_X6_9 ?_
      refine x_iload_n dX6_mouthsAt_30 rfl ?_
      obtain ⟨v11, e12, h⟩ := Option.bind_eq_some_iff.mp h
      refine k_aI e12 dX6_mouthsAt_31 ?_
      obtain ⟨v13, e14, h⟩ := Option.bind_eq_some_iff.mp h
      refine k_aI e14 dX6_mouthsAt_32 ?_
      refine x_iload_n dX6_mouthsAt_33 rfl ?_
      refine x_icmp_ne 58 dX6_mouthsAt_34 (by decide) (fun q15 => ?_) (fun q15 => ?_)
      · rw [if_pos q15] at h
        refine x_iinc (a3 + 1) dX6_mouthsAt_58 rfl (by rfl) ?_
        refine x_goto 4 dX6_mouthsAt_61 (by decide) ?_
        exact Wp.mask [true, true, true, true] (hrec 4 _ _ _ h _ _ rfl _ hQ)
      · rw [if_neg (fun z9 => z9 q15)] at h
        exact Wp.mask [true, true, true, true] (hrec 37 _ _ _ h _ _ rfl _ hQ)
set_option maxHeartbeats 2000000 in
set_option maxRecDepth 20000 in
theorem t_X6_mouthsAt_37 {G : xG} {l : Launch} (hl : l.stackTraces = false) {n : Nat} {rec : Nat → List Value → xH → xO} (hrec : ∀ pc env P z, rec pc env P = some z → ∀ L st, lay_X6_mouthsAt pc env = some (L, st) → ∀ Q : xR → xH → Prop, Q z.1 z.2 → Wp G l 3 mX6_mouthsAt pc L st P Q) {a0 a1 a2 a3} {P : xH} {z : xR × xH} (h : b_X6_mouthsAt_37 n rec a0 a1 a2 a3 P = some z) {Q : xR → xH → Prop} (hQ : Q z.1 z.2) : Wp G l 3 mX6_mouthsAt 37 [some (.ref a0), some (.int a1), some (.int a2), some (.int a3)] [] P Q := by
  unfold b_X6_mouthsAt_37 at h
  refine x_iload_n dX6_mouthsAt_37 rfl ?_
  refine x_iconst 1 dX6_mouthsAt_38 (by decide) ?_
  refine x_aload_nr dX6_mouthsAt_39 rfl ?_
  obtain ⟨v1, e2, h⟩ := Option.bind_eq_some_iff.mp h
  refine k_rA e2 dX6_mouthsAt_40 f_X6_18 ?_
  obtain ⟨v3, e4, h⟩ := Option.bind_eq_some_iff.mp h
  refine k_rA e4 dX6_mouthsAt_43 f_X6_33 ?_
  refine x_iconst 1 dX6_mouthsAt_46 (by decide) ?_
  obtain ⟨v5, e6, h⟩ := Option.bind_eq_some_iff.mp h
  refine k_aA e6 dX6_mouthsAt_47 ?_
  refine x_aload_nr dX6_mouthsAt_48 rfl ?_
  obtain ⟨v7, e8, h⟩ := Option.bind_eq_some_iff.mp h
  refine k_rA e8 dX6_mouthsAt_49 f_X6_9 ?_
  refine x_iload_n dX6_mouthsAt_52 rfl ?_
  obtain ⟨v9, e10, h⟩ := Option.bind_eq_some_iff.mp h
  refine k_aI e10 dX6_mouthsAt_53 ?_
  obtain ⟨v11, e12, h⟩ := Option.bind_eq_some_iff.mp h
  refine k_aI e12 dX6_mouthsAt_54 ?_
  refine x_ishl dX6_mouthsAt_55 ?_
  refine x_ior dX6_mouthsAt_56 ?_
  refine x_istore_n dX6_mouthsAt_57 (Nat.le_of_ble_eq_true rfl) ?_
  refine x_iinc (a3 + 1) dX6_mouthsAt_58 rfl (by rfl) ?_
  refine x_goto 4 dX6_mouthsAt_61 (by decide) ?_
  exact Wp.mask [true, true, true, true] (hrec 4 _ _ _ h _ _ rfl _ hQ)
theorem s_X6_mouthsAt {G : xG} {l : Launch} (hl : l.stackTraces = false) : ∀ n pc env P z, f_X6_mouthsAt n pc env P = some z → ∀ L st, lay_X6_mouthsAt pc env = some (L, st) → ∀ Q : xR → xH → Prop, Q z.1 z.2 → Wp G l 3 mX6_mouthsAt pc L st P Q := by
  intro n
  induction n with
  | zero => intro pc env P z h; cases h
  | succ n ih =>
    intro pc env P z h L st hlay Q hQ
    unfold f_X6_mouthsAt at h
    split at h
    · cases hlay
      exact t_X6_mouthsAt_0 hl ih h hQ
    · cases hlay
      exact t_X6_mouthsAt_4 hl ih h hQ
    · cases hlay
      exact t_X6_mouthsAt_37 hl ih h hQ
    · cases h
theorem c_X6_mouthsAt {G : xG} {l : Launch} (hl : l.stackTraces = false) {n : Nat} {as : List Value} {P : xH} {z : xR × xH} (h : f_X6_mouthsAt n 0 as P = some z) : Ct G l 3 mX6_mouthsAt as P (fun r P1 => (r, P1) = z) := by
  cases n with
  | zero => cases h
  | succ n =>
    unfold f_X6_mouthsAt at h
    split at h
    · exact Ct.of hl (by decide +kernel) wc_X6_mouthsAt (Nat.le_of_ble_eq_true rfl) (t_X6_mouthsAt_0 hl (s_X6_mouthsAt hl _) h rfl)
    all_goals first | (cases h; done) | (rename_i q9 _; exact absurd q9 (by decide)) | (rename_i q9; exact absurd q9 (by decide)) | contradiction
/-! QuakeNet.sayings(IIZ)I -/
def b_X10_sayings_0 (n : Nat) (rec : Nat → List Value → xH → xO) (a0 : Nat) (a1 : Int32) (a2 : Int32) (a3 : Int32) (P : xH) : xO :=
  (f_X10_needIndex n 0 [.int a1, .int 16] P).bind fun r2 => xUt r2 fun P1 =>
  (rA P1 a0 10 3).bind fun v4 =>
  (kO P1 v4 6).bind fun _ =>
  (f_X6_gather n 0 [.ref v4, .int a1, .int a2] P1).bind fun r7 => xU r7 fun P6 =>
  if a3 = 0 then
    (rA P6 a0 10 3).bind fun v10 =>
    (rI P6 v10 6 4).bind fun v12 =>
    some (.inl (some (.int v12)), P6)
  else
    (rA P6 a0 10 3).bind fun v14 =>
    (kO P6 v14 6).bind fun _ =>
    (f_X6_mouthsAt n 0 [.ref v14, .int ((-1))] P6).bind fun r17 => xI r17 fun v19 P16 =>
    (f_J6_bitCount_0f7a4 n 0 [.int v19] P16).bind fun r22 => xI r22 fun v24 P21 =>
    some (.inl (some (.int v24)), P21)
def lay_X10_sayings : Nat → List Value → Option (xL × List Value)
  | 0, [a0, a1, a2, a3] => some ([some a0, some a1, some a2, some a3], [])
  | _, _ => none
def f_X10_sayings : Nat → Nat → List Value → xH → xO
  | 0 => fun _ _ _ => none
  | n + 1 => fun pc env P => match pc, env with
    | 0, [.ref a0, .int a1, .int a2, .int a3] => b_X10_sayings_0 n (f_X10_sayings n) a0 a1 a2 a3 P
    | _, _ => none
set_option maxHeartbeats 2000000 in
set_option maxRecDepth 20000 in
theorem t_X10_sayings_0 {G : xG} {l : Launch} (hl : l.stackTraces = false) {n : Nat} {rec : Nat → List Value → xH → xO} (hrec : ∀ pc env P z, rec pc env P = some z → ∀ L st, lay_X10_sayings pc env = some (L, st) → ∀ Q : xR → xH → Prop, Q z.1 z.2 → Wp G l 9 mX10_sayings pc L st P Q) {a0 a1 a2 a3} {P : xH} {z : xR × xH} (h : b_X10_sayings_0 n rec a0 a1 a2 a3 P = some z) {Q : xR → xH → Prop} (hQ : Q z.1 z.2) : Wp G l 9 mX10_sayings 0 [some (.ref a0), some (.int a1), some (.int a2), some (.int a3)] [] P Q := by
  unfold b_X10_sayings_0 at h
  refine x_iload_n dX10_sayings_0 rfl ?_
  refine x_bipush 16 dX10_sayings_1 (by decide) ?_
  obtain ⟨r2, e3, h⟩ := Option.bind_eq_some_iff.mp h
  replace h := xUt_ok h
  rcases h with ⟨P1, hr9, h⟩ | ⟨i8, P8, rfl, rfl⟩
  · subst hr9
    refine x_callS (c_X10_needIndex hl e3) dX10_sayings_3 cw_X10_needIndex wl_X10_87 ws_X10_needIndex rfl (by omega) (by decide) rfl (Nat.le_of_ble_eq_true rfl) rfl (fun v9 P9 hq9 => ?_) (fun i9 P9 hq9 => by cases hq9)
    cases hq9
    refine x_aload_nr dX10_sayings_6 rfl ?_
    obtain ⟨v4, e5, h⟩ := Option.bind_eq_some_iff.mp h
    refine k_rA e5 dX10_sayings_7 f_X10_48 ?_
    refine x_iload_n dX10_sayings_10 rfl ?_
    refine x_iload_n dX10_sayings_11 rfl ?_
    obtain ⟨_, e9, h⟩ := Option.bind_eq_some_iff.mp h
    obtain ⟨fse9, e9⟩ := kO_ok e9
    obtain ⟨r7, e8, h⟩ := Option.bind_eq_some_iff.mp h
    replace h := xU_ok h
    obtain ⟨P6, rfl, h⟩ := h
    refine x_callV (c_X6_gather hl e8) dX10_sayings_12 cw_X6_gather wl_X10_201 wi_X6_gather wse_X6_gather rfl e9 (by decide) rfl (by omega) (by decide) rfl (Nat.le_of_ble_eq_true rfl) rfl (fun v9 P9 hq9 => ?_) (fun i9 P9 hq9 => by cases hq9)
    cases hq9
    refine x_iload_n dX10_sayings_15 rfl ?_
    refine x_if_eq 33 dX10_sayings_16 (by decide) (fun q25 => ?_) (fun q25 => ?_)
    · rw [if_pos q25] at h
      refine x_aload_nr dX10_sayings_33 rfl ?_
      obtain ⟨v10, e11, h⟩ := Option.bind_eq_some_iff.mp h
      refine k_rA e11 dX10_sayings_34 f_X10_48 ?_
      obtain ⟨v12, e13, h⟩ := Option.bind_eq_some_iff.mp h
      refine k_rI e13 dX10_sayings_37 f_X10_212 ?_
      cases h
      exact x_iret .int rfl rfl dX10_sayings_40 hQ
    · rw [if_neg q25] at h
      refine x_aload_nr dX10_sayings_19 rfl ?_
      obtain ⟨v14, e15, h⟩ := Option.bind_eq_some_iff.mp h
      refine k_rA e15 dX10_sayings_20 f_X10_48 ?_
      refine x_iconst (-1) dX10_sayings_23 (by decide) ?_
      obtain ⟨_, e20, h⟩ := Option.bind_eq_some_iff.mp h
      obtain ⟨fse20, e20⟩ := kO_ok e20
      obtain ⟨r17, e18, h⟩ := Option.bind_eq_some_iff.mp h
      replace h := xI_ok h
      obtain ⟨v19, P16, rfl, h⟩ := h
      refine x_callV (c_X6_mouthsAt hl e18) dX10_sayings_24 cw_X6_mouthsAt wl_X10_204 wi_X6_mouthsAt wse_X6_mouthsAt rfl e20 (by decide) rfl (by omega) (by decide) rfl (Nat.le_of_ble_eq_true rfl) rfl (fun v9 P9 hq9 => ?_) (fun i9 P9 hq9 => by cases hq9)
      cases hq9
      obtain ⟨r22, e23, h⟩ := Option.bind_eq_some_iff.mp h
      replace h := xI_ok h
      obtain ⟨v24, P21, rfl, h⟩ := h
      refine x_callS (c_J6_bitCount_0f7a4 hl e23) dX10_sayings_27 cw_J6_bitCount_0f7a4 wl_X10_207 ws_J6_bitCount_0f7a4 rfl (by omega) (by decide) rfl (Nat.le_of_ble_eq_true rfl) rfl (fun v9 P9 hq9 => ?_) (fun i9 P9 hq9 => by cases hq9)
      cases hq9
      refine x_goto 40 dX10_sayings_30 (by decide) ?_
      cases h
      exact x_iret .int rfl rfl dX10_sayings_40 hQ
  · exact x_callS (c_X10_needIndex hl e3) dX10_sayings_3 cw_X10_needIndex wl_X10_87 ws_X10_needIndex rfl (by omega) (by decide) rfl (Nat.le_of_ble_eq_true rfl) rfl (fun v9 P9 hq9 => by cases hq9) (fun i9 P9 hq9 => by cases hq9; exact hQ)
theorem s_X10_sayings {G : xG} {l : Launch} (hl : l.stackTraces = false) : ∀ n pc env P z, f_X10_sayings n pc env P = some z → ∀ L st, lay_X10_sayings pc env = some (L, st) → ∀ Q : xR → xH → Prop, Q z.1 z.2 → Wp G l 9 mX10_sayings pc L st P Q := by
  intro n
  induction n with
  | zero => intro pc env P z h; cases h
  | succ n ih =>
    intro pc env P z h L st hlay Q hQ
    unfold f_X10_sayings at h
    split at h
    · cases hlay
      exact t_X10_sayings_0 hl ih h hQ
    · cases h
theorem c_X10_sayings {G : xG} {l : Launch} (hl : l.stackTraces = false) {n : Nat} {as : List Value} {P : xH} {z : xR × xH} (h : f_X10_sayings n 0 as P = some z) : Ct G l 9 mX10_sayings as P (fun r P1 => (r, P1) = z) := by
  cases n with
  | zero => cases h
  | succ n =>
    unfold f_X10_sayings at h
    split at h
    · exact Ct.of hl (by decide +kernel) wc_X10_sayings (Nat.le_of_ble_eq_true rfl) (t_X10_sayings_0 hl (s_X10_sayings hl _) h rfl)
    all_goals first | (cases h; done) | (rename_i q9 _; exact absurd q9 (by decide)) | (rename_i q9; exact absurd q9 (by decide)) | contradiction
/-! QuakeNet.speed(I)V -/
def b_X10_speed_0 (n : Nat) (rec : Nat → List Value → xH → xO) (a0 : Nat) (a1 : Int32) (P : xH) : xO :=
  (f_X10_needWithin n 0 [.int a1, .int 1, .int 8] P).bind fun r2 => xUt r2 fun P1 =>
  (rA P1 a0 10 1).bind fun v4 =>
  (wV P1 v4 7 8 (.int a1)).bind fun P6 =>
  some (.inl none, P6)
def lay_X10_speed : Nat → List Value → Option (xL × List Value)
  | 0, [a0, a1] => some ([some a0, some a1], [])
  | _, _ => none
def f_X10_speed : Nat → Nat → List Value → xH → xO
  | 0 => fun _ _ _ => none
  | n + 1 => fun pc env P => match pc, env with
    | 0, [.ref a0, .int a1] => b_X10_speed_0 n (f_X10_speed n) a0 a1 P
    | _, _ => none
set_option maxHeartbeats 2000000 in
set_option maxRecDepth 20000 in
theorem t_X10_speed_0 {G : xG} {l : Launch} (hl : l.stackTraces = false) {n : Nat} {rec : Nat → List Value → xH → xO} (hrec : ∀ pc env P z, rec pc env P = some z → ∀ L st, lay_X10_speed pc env = some (L, st) → ∀ Q : xR → xH → Prop, Q z.1 z.2 → Wp G l 9 mX10_speed pc L st P Q) {a0 a1} {P : xH} {z : xR × xH} (h : b_X10_speed_0 n rec a0 a1 P = some z) {Q : xR → xH → Prop} (hQ : Q z.1 z.2) : Wp G l 9 mX10_speed 0 [some (.ref a0), some (.int a1)] [] P Q := by
  unfold b_X10_speed_0 at h
  refine x_iload_n dX10_speed_0 rfl ?_
  refine x_iconst 1 dX10_speed_1 (by decide) ?_
  refine x_bipush 8 dX10_speed_2 (by decide) ?_
  obtain ⟨r2, e3, h⟩ := Option.bind_eq_some_iff.mp h
  replace h := xUt_ok h
  rcases h with ⟨P1, hr9, h⟩ | ⟨i8, P8, rfl, rfl⟩
  · subst hr9
    refine x_callS (c_X10_needWithin hl e3) dX10_speed_4 cw_X10_needWithin wl_X10_67 ws_X10_needWithin rfl (by omega) (by decide) rfl (Nat.le_of_ble_eq_true rfl) rfl (fun v9 P9 hq9 => ?_) (fun i9 P9 hq9 => by cases hq9)
    cases hq9
    refine x_aload_nr dX10_speed_7 rfl ?_
    obtain ⟨v4, e5, h⟩ := Option.bind_eq_some_iff.mp h
    refine k_rA e5 dX10_speed_8 f_X10_19 ?_
    refine x_iload_n dX10_speed_11 rfl ?_
    obtain ⟨P6, e7, h⟩ := Option.bind_eq_some_iff.mp h
    refine k_wI e7 dX10_speed_12 f_X10_213 (Or.inl (by decide)) rfl ?_
    cases h
    exact x_ret rfl dX10_speed_15 hQ
  · exact x_callS (c_X10_needWithin hl e3) dX10_speed_4 cw_X10_needWithin wl_X10_67 ws_X10_needWithin rfl (by omega) (by decide) rfl (Nat.le_of_ble_eq_true rfl) rfl (fun v9 P9 hq9 => by cases hq9) (fun i9 P9 hq9 => by cases hq9; exact hQ)
theorem s_X10_speed {G : xG} {l : Launch} (hl : l.stackTraces = false) : ∀ n pc env P z, f_X10_speed n pc env P = some z → ∀ L st, lay_X10_speed pc env = some (L, st) → ∀ Q : xR → xH → Prop, Q z.1 z.2 → Wp G l 9 mX10_speed pc L st P Q := by
  intro n
  induction n with
  | zero => intro pc env P z h; cases h
  | succ n ih =>
    intro pc env P z h L st hlay Q hQ
    unfold f_X10_speed at h
    split at h
    · cases hlay
      exact t_X10_speed_0 hl ih h hQ
    · cases h
theorem c_X10_speed {G : xG} {l : Launch} (hl : l.stackTraces = false) {n : Nat} {as : List Value} {P : xH} {z : xR × xH} (h : f_X10_speed n 0 as P = some z) : Ct G l 9 mX10_speed as P (fun r P1 => (r, P1) = z) := by
  cases n with
  | zero => cases h
  | succ n =>
    unfold f_X10_speed at h
    split at h
    · exact Ct.of hl (by decide +kernel) wc_X10_speed (Nat.le_of_ble_eq_true rfl) (t_X10_speed_0 hl (s_X10_speed hl _) h rfl)
    all_goals first | (cases h; done) | (rename_i q9 _; exact absurd q9 (by decide)) | (rename_i q9; exact absurd q9 (by decide)) | contradiction
/-! QuakeNet.steps(II)I -/
def b_X10_steps_0 (n : Nat) (rec : Nat → List Value → xH → xO) (a0 : Int32) (a1 : Int32) (P : xH) : xO :=
  some (.inl (some (.int ((((mAbs ((((a0 - a0 / 4 * 4)) - ((a1 - a1 / 4 * 4)))))) + ((mAbs ((((a0 / 4)) - ((a1 / 4)))))))))), P)
def lay_X10_steps : Nat → List Value → Option (xL × List Value)
  | 0, [a0, a1] => some ([some a0, some a1], [])
  | _, _ => none
def f_X10_steps : Nat → Nat → List Value → xH → xO
  | 0 => fun _ _ _ => none
  | n + 1 => fun pc env P => match pc, env with
    | 0, [.int a0, .int a1] => b_X10_steps_0 n (f_X10_steps n) a0 a1 P
    | _, _ => none
set_option maxHeartbeats 2000000 in
set_option maxRecDepth 20000 in
theorem t_X10_steps_0 {G : xG} {l : Launch} (hl : l.stackTraces = false) {n : Nat} {rec : Nat → List Value → xH → xO} (hrec : ∀ pc env P z, rec pc env P = some z → ∀ L st, lay_X10_steps pc env = some (L, st) → ∀ Q : xR → xH → Prop, Q z.1 z.2 → Wp G l 7 mX10_steps pc L st P Q) {a0 a1} {P : xH} {z : xR × xH} (h : b_X10_steps_0 n rec a0 a1 P = some z) {Q : xR → xH → Prop} (hQ : Q z.1 z.2) : Wp G l 7 mX10_steps 0 [some (.int a0), some (.int a1)] [] P Q := by
  unfold b_X10_steps_0 at h
  refine x_iload_n dX10_steps_0 rfl ?_
  refine x_iconst 4 dX10_steps_1 (by decide) ?_
  refine x_irem dX10_steps_2 (by decide) ?_
  refine x_iload_n dX10_steps_3 rfl ?_
  refine x_iconst 4 dX10_steps_4 (by decide) ?_
  refine x_irem dX10_steps_5 (by decide) ?_
  refine x_isub dX10_steps_6 ?_
  refine x_mabs dX10_steps_7 wl_X10_378 (Nat.le_of_ble_eq_true rfl) (by omega) ?_
  refine x_iload_n dX10_steps_10 rfl ?_
  refine x_iconst 4 dX10_steps_11 (by decide) ?_
  refine x_idiv dX10_steps_12 (by decide) ?_
  refine x_iload_n dX10_steps_13 rfl ?_
  refine x_iconst 4 dX10_steps_14 (by decide) ?_
  refine x_idiv dX10_steps_15 (by decide) ?_
  refine x_isub dX10_steps_16 ?_
  refine x_mabs dX10_steps_17 wl_X10_378 (Nat.le_of_ble_eq_true rfl) (by omega) ?_
  refine x_iadd dX10_steps_20 ?_
  cases h
  exact x_iret .int rfl rfl dX10_steps_21 hQ
theorem s_X10_steps {G : xG} {l : Launch} (hl : l.stackTraces = false) : ∀ n pc env P z, f_X10_steps n pc env P = some z → ∀ L st, lay_X10_steps pc env = some (L, st) → ∀ Q : xR → xH → Prop, Q z.1 z.2 → Wp G l 7 mX10_steps pc L st P Q := by
  intro n
  induction n with
  | zero => intro pc env P z h; cases h
  | succ n ih =>
    intro pc env P z h L st hlay Q hQ
    unfold f_X10_steps at h
    split at h
    · cases hlay
      exact t_X10_steps_0 hl ih h hQ
    · cases h
theorem c_X10_steps {G : xG} {l : Launch} (hl : l.stackTraces = false) {n : Nat} {as : List Value} {P : xH} {z : xR × xH} (h : f_X10_steps n 0 as P = some z) : Ct G l 7 mX10_steps as P (fun r P1 => (r, P1) = z) := by
  cases n with
  | zero => cases h
  | succ n =>
    unfold f_X10_steps at h
    split at h
    · exact Ct.of hl (by decide +kernel) wc_X10_steps (Nat.le_of_ble_eq_true rfl) (t_X10_steps_0 hl (s_X10_steps hl _) h rfl)
    all_goals first | (cases h; done) | (rename_i q9 _; exact absurd q9 (by decide)) | (rename_i q9; exact absurd q9 (by decide)) | contradiction
/-! QuakeNet$Sayings.isTooFar(IIII)Z -/
def b_X6_isTooFar_0 (n : Nat) (rec : Nat → List Value → xH → xO) (a0 : Nat) (a1 : Int32) (a2 : Int32) (a3 : Int32) (a4 : Int32) (P : xH) : xO :=
  (rA P a0 6 0).bind fun v1 =>
  (rA P v1 9 0).bind fun v3 =>
  (aA P v3 6).bind fun v5 =>
  (aI P v5 a1).bind fun v7 =>
  (rA P a0 6 0).bind fun v9 =>
  (rA P v9 9 0).bind fun v11 =>
  (aA P v11 5).bind fun v13 =>
  (aI P v13 a1).bind fun v15 =>
  (f_X10_steps n 0 [.int v15, .int a2] P).bind fun r18 => xI r18 fun v20 P17 =>
  if v20 ≤ ((a4 * ((mAbs ((v7 - a3)))))) then
    some (.inl (some (.int 0)), P17)
  else
    some (.inl (some (.int 1)), P17)
def lay_X6_isTooFar : Nat → List Value → Option (xL × List Value)
  | 0, [a0, a1, a2, a3, a4] => some ([some a0, some a1, some a2, some a3, some a4, none], [])
  | _, _ => none
def f_X6_isTooFar : Nat → Nat → List Value → xH → xO
  | 0 => fun _ _ _ => none
  | n + 1 => fun pc env P => match pc, env with
    | 0, [.ref a0, .int a1, .int a2, .int a3, .int a4] => b_X6_isTooFar_0 n (f_X6_isTooFar n) a0 a1 a2 a3 a4 P
    | _, _ => none
set_option maxHeartbeats 2000000 in
set_option maxRecDepth 20000 in
theorem t_X6_isTooFar_0 {G : xG} {l : Launch} (hl : l.stackTraces = false) {n : Nat} {rec : Nat → List Value → xH → xO} (hrec : ∀ pc env P z, rec pc env P = some z → ∀ L st, lay_X6_isTooFar pc env = some (L, st) → ∀ Q : xR → xH → Prop, Q z.1 z.2 → Wp G l 8 mX6_isTooFar pc L st P Q) {a0 a1 a2 a3 a4} {P : xH} {z : xR × xH} (h : b_X6_isTooFar_0 n rec a0 a1 a2 a3 a4 P = some z) {Q : xR → xH → Prop} (hQ : Q z.1 z.2) : Wp G l 8 mX6_isTooFar 0 [some (.ref a0), some (.int a1), some (.int a2), some (.int a3), some (.int a4), none] [] P Q := by
  unfold b_X6_isTooFar_0 at h
  refine x_aload_nr dX6_isTooFar_0 rfl ?_
  obtain ⟨v1, e2, h⟩ := Option.bind_eq_some_iff.mp h
  refine k_rA e2 dX6_isTooFar_1 f_X6_18 ?_
  obtain ⟨v3, e4, h⟩ := Option.bind_eq_some_iff.mp h
  refine k_rA e4 dX6_isTooFar_4 f_X6_33 ?_
  refine x_bipush 6 dX6_isTooFar_7 (by decide) ?_
  obtain ⟨v5, e6, h⟩ := Option.bind_eq_some_iff.mp h
  refine k_aA e6 dX6_isTooFar_9 ?_
  refine x_iload_n dX6_isTooFar_10 rfl ?_
  obtain ⟨v7, e8, h⟩ := Option.bind_eq_some_iff.mp h
  refine k_aI e8 dX6_isTooFar_11 ?_
  refine x_iload_n dX6_isTooFar_12 rfl ?_
  refine x_isub dX6_isTooFar_13 ?_
  refine x_mabs dX6_isTooFar_14 wl_X6_53 (Nat.le_of_ble_eq_true rfl) (by omega) ?_
  refine x_istore dX6_isTooFar_17 (Nat.le_of_ble_eq_true rfl) ?_
  refine x_aload_nr dX6_isTooFar_19 rfl ?_
  obtain ⟨v9, e10, h⟩ := Option.bind_eq_some_iff.mp h
  refine k_rA e10 dX6_isTooFar_20 f_X6_18 ?_
  obtain ⟨v11, e12, h⟩ := Option.bind_eq_some_iff.mp h
  refine k_rA e12 dX6_isTooFar_23 f_X6_33 ?_
  refine x_iconst 5 dX6_isTooFar_26 (by decide) ?_
  obtain ⟨v13, e14, h⟩ := Option.bind_eq_some_iff.mp h
  refine k_aA e14 dX6_isTooFar_27 ?_
  refine x_iload_n dX6_isTooFar_28 rfl ?_
  obtain ⟨v15, e16, h⟩ := Option.bind_eq_some_iff.mp h
  refine k_aI e16 dX6_isTooFar_29 ?_
  refine x_iload_n dX6_isTooFar_30 rfl ?_
  obtain ⟨r18, e19, h⟩ := Option.bind_eq_some_iff.mp h
  replace h := xI_ok h
  obtain ⟨v20, P17, rfl, h⟩ := h
  refine x_callSN (c_X10_steps hl e19) dX6_isTooFar_31 cw_X10_steps wn_X6_59 ws_X10_steps rfl (by omega) (by decide) rfl (Nat.le_of_ble_eq_true rfl) (fun i9 P9 hq9 => by cases hq9) (fun v9 P9 hq9 => ?_)
  cases hq9
  refine x_iload dX6_isTooFar_34 rfl ?_
  refine x_iload dX6_isTooFar_36 rfl ?_
  refine x_imul dX6_isTooFar_38 ?_
  refine x_icmp_le 46 dX6_isTooFar_39 (by decide) (fun q21 => ?_) (fun q21 => ?_)
  · rw [if_pos q21] at h
    refine x_iconst 0 dX6_isTooFar_46 (by decide) ?_
    cases h
    exact x_iret .boolean rfl rfl dX6_isTooFar_47 hQ
  · rw [if_neg q21] at h
    refine x_iconst 1 dX6_isTooFar_42 (by decide) ?_
    refine x_goto 47 dX6_isTooFar_43 (by decide) ?_
    cases h
    exact x_iret .boolean rfl rfl dX6_isTooFar_47 hQ
theorem s_X6_isTooFar {G : xG} {l : Launch} (hl : l.stackTraces = false) : ∀ n pc env P z, f_X6_isTooFar n pc env P = some z → ∀ L st, lay_X6_isTooFar pc env = some (L, st) → ∀ Q : xR → xH → Prop, Q z.1 z.2 → Wp G l 8 mX6_isTooFar pc L st P Q := by
  intro n
  induction n with
  | zero => intro pc env P z h; cases h
  | succ n ih =>
    intro pc env P z h L st hlay Q hQ
    unfold f_X6_isTooFar at h
    split at h
    · cases hlay
      exact t_X6_isTooFar_0 hl ih h hQ
    · cases h
theorem c_X6_isTooFar {G : xG} {l : Launch} (hl : l.stackTraces = false) {n : Nat} {as : List Value} {P : xH} {z : xR × xH} (h : f_X6_isTooFar n 0 as P = some z) : Ct G l 8 mX6_isTooFar as P (fun r P1 => (r, P1) = z) := by
  cases n with
  | zero => cases h
  | succ n =>
    unfold f_X6_isTooFar at h
    split at h
    · exact Ct.of hl (by decide +kernel) wc_X6_isTooFar (Nat.le_of_ble_eq_true rfl) (t_X6_isTooFar_0 hl (s_X6_isTooFar hl _) h rfl)
    all_goals first | (cases h; done) | (rename_i q9 _; exact absurd q9 (by decide)) | (rename_i q9; exact absurd q9 (by decide)) | contradiction
/-! QuakeNet$Sayings.placesLeft(II)I -/
def b_X6_placesLeft_0 (n : Nat) (rec : Nat → List Value → xH → xO) (a0 : Nat) (a1 : Int32) (a2 : Int32) (P : xH) : xO :=
  rec 5 [.ref a0, .int a1, .int a2, .int 0, .int 0] P
def b_X6_placesLeft_5 (n : Nat) (rec : Nat → List Value → xH → xO) (a0 : Nat) (a1 : Int32) (a2 : Int32) (a3 : Int32) (a4 : Int32) (P : xH) : xO :=
  if 16 ≤ a4 then
    some (.inl (some (.int a3)), P)
  else
    rec 18 [.ref a0, .int a1, .int a2, .int a3, .int a4, .int 1, .int 0] P
def b_X6_placesLeft_18 (n : Nat) (rec : Nat → List Value → xH → xO) (a0 : Nat) (a1 : Int32) (a2 : Int32) (a3 : Int32) (a4 : Int32) (a5 : Int32) (a6 : Int32) (P : xH) : xO :=
  (rI P a0 6 4).bind fun v1 =>
  if v1 ≤ a6 then
    rec 63 [.ref a0, .int a1, .int a2, .int a3, .int a4, .int a5, .int a6] P
  else
    if a5 = 0 then
      rec 63 [.ref a0, .int a1, .int a2, .int a3, .int a4, .int a5, .int a6] P
    else
      (rA P a0 6 2).bind fun v3 =>
      (aI P v3 a6).bind fun v5 =>
      (kO P a0 6).bind fun _ =>
      (f_X6_isTooFar n 0 [.ref a0, .int v5, .int a4, .int a1, .int a2] P).bind fun r8 => xI r8 fun v10 P7 =>
      if ¬ v10 = 0 then
        rec 18 [.ref a0, .int a1, .int a2, .int a3, .int a4, .int 0, .int ((a6 + 1))] P7
      else
        rec 18 [.ref a0, .int a1, .int a2, .int a3, .int a4, .int 1, .int ((a6 + 1))] P7
def b_X6_placesLeft_63 (n : Nat) (rec : Nat → List Value → xH → xO) (a0 : Nat) (a1 : Int32) (a2 : Int32) (a3 : Int32) (a4 : Int32) (a5 : Int32) (a6 : Int32) (P : xH) : xO :=
  if a5 = 0 then
    rec 5 [.ref a0, .int a1, .int a2, .int ((a3 ||| 0)), .int ((a4 + 1))] P
  else
    rec 5 [.ref a0, .int a1, .int a2, .int ((a3 ||| ((1 <<< (a4 &&& 31))))), .int ((a4 + 1))] P
def lay_X6_placesLeft : Nat → List Value → Option (xL × List Value)
  | 0, [a0, a1, a2] => some ([some a0, some a1, some a2, none, none, none, none], [])
  | 5, [a0, a1, a2, a3, a4] => some ([some a0, some a1, some a2, some a3, some a4, none, none], [])
  | 18, [a0, a1, a2, a3, a4, a5, a6] => some ([some a0, some a1, some a2, some a3, some a4, some a5, some a6], [])
  | 63, [a0, a1, a2, a3, a4, a5, a6] => some ([some a0, some a1, some a2, some a3, some a4, some a5, some a6], [])
  | _, _ => none
def f_X6_placesLeft : Nat → Nat → List Value → xH → xO
  | 0 => fun _ _ _ => none
  | n + 1 => fun pc env P => match pc, env with
    | 0, [.ref a0, .int a1, .int a2] => b_X6_placesLeft_0 n (f_X6_placesLeft n) a0 a1 a2 P
    | 5, [.ref a0, .int a1, .int a2, .int a3, .int a4] => b_X6_placesLeft_5 n (f_X6_placesLeft n) a0 a1 a2 a3 a4 P
    | 18, [.ref a0, .int a1, .int a2, .int a3, .int a4, .int a5, .int a6] => b_X6_placesLeft_18 n (f_X6_placesLeft n) a0 a1 a2 a3 a4 a5 a6 P
    | 63, [.ref a0, .int a1, .int a2, .int a3, .int a4, .int a5, .int a6] => b_X6_placesLeft_63 n (f_X6_placesLeft n) a0 a1 a2 a3 a4 a5 a6 P
    | _, _ => none
set_option maxHeartbeats 2000000 in
set_option maxRecDepth 20000 in
theorem t_X6_placesLeft_0 {G : xG} {l : Launch} (hl : l.stackTraces = false) {n : Nat} {rec : Nat → List Value → xH → xO} (hrec : ∀ pc env P z, rec pc env P = some z → ∀ L st, lay_X6_placesLeft pc env = some (L, st) → ∀ Q : xR → xH → Prop, Q z.1 z.2 → Wp G l 9 mX6_placesLeft pc L st P Q) {a0 a1 a2} {P : xH} {z : xR × xH} (h : b_X6_placesLeft_0 n rec a0 a1 a2 P = some z) {Q : xR → xH → Prop} (hQ : Q z.1 z.2) : Wp G l 9 mX6_placesLeft 0 [some (.ref a0), some (.int a1), some (.int a2), none, none, none, none] [] P Q := by
  unfold b_X6_placesLeft_0 at h
  refine x_iconst 0 dX6_placesLeft_0 (by decide) ?_
  refine x_istore_n dX6_placesLeft_1 (Nat.le_of_ble_eq_true rfl) ?_
  refine x_iconst 0 dX6_placesLeft_2 (by decide) ?_
  refine x_istore dX6_placesLeft_3 (Nat.le_of_ble_eq_true rfl) ?_
  exact Wp.mask [true, true, true, true, true, false, false] (hrec 5 _ _ _ h _ _ rfl _ hQ)
set_option maxHeartbeats 2000000 in
set_option maxRecDepth 20000 in
theorem t_X6_placesLeft_5 {G : xG} {l : Launch} (hl : l.stackTraces = false) {n : Nat} {rec : Nat → List Value → xH → xO} (hrec : ∀ pc env P z, rec pc env P = some z → ∀ L st, lay_X6_placesLeft pc env = some (L, st) → ∀ Q : xR → xH → Prop, Q z.1 z.2 → Wp G l 9 mX6_placesLeft pc L st P Q) {a0 a1 a2 a3 a4} {P : xH} {z : xR × xH} (h : b_X6_placesLeft_5 n rec a0 a1 a2 a3 a4 P = some z) {Q : xR → xH → Prop} (hQ : Q z.1 z.2) : Wp G l 9 mX6_placesLeft 5 [some (.ref a0), some (.int a1), some (.int a2), some (.int a3), some (.int a4), none, none] [] P Q := by
  unfold b_X6_placesLeft_5 at h
  refine x_iload dX6_placesLeft_5 rfl ?_
  refine x_bipush 16 dX6_placesLeft_7 (by decide) ?_
  refine x_icmp_ge 85 dX6_placesLeft_9 (by decide) (fun q1 => ?_) (fun q1 => ?_)
  · rw [if_pos q1] at h
    refine x_iload_n dX6_placesLeft_85 rfl ?_
    cases h
    exact x_iret .int rfl rfl dX6_placesLeft_86 hQ
  · rw [if_neg q1] at h
    refine x_iconst 1 dX6_placesLeft_12 (by decide) ?_
    refine x_istore dX6_placesLeft_13 (Nat.le_of_ble_eq_true rfl) ?_
    refine x_iconst 0 dX6_placesLeft_15 (by decide) ?_
    refine x_istore dX6_placesLeft_16 (Nat.le_of_ble_eq_true rfl) ?_
    exact Wp.mask [true, true, true, true, true, true, true] (hrec 18 _ _ _ h _ _ rfl _ hQ)
set_option maxHeartbeats 2000000 in
set_option maxRecDepth 20000 in
theorem t_X6_placesLeft_18 {G : xG} {l : Launch} (hl : l.stackTraces = false) {n : Nat} {rec : Nat → List Value → xH → xO} (hrec : ∀ pc env P z, rec pc env P = some z → ∀ L st, lay_X6_placesLeft pc env = some (L, st) → ∀ Q : xR → xH → Prop, Q z.1 z.2 → Wp G l 9 mX6_placesLeft pc L st P Q) {a0 a1 a2 a3 a4 a5 a6} {P : xH} {z : xR × xH} (h : b_X6_placesLeft_18 n rec a0 a1 a2 a3 a4 a5 a6 P = some z) {Q : xR → xH → Prop} (hQ : Q z.1 z.2) : Wp G l 9 mX6_placesLeft 18 [some (.ref a0), some (.int a1), some (.int a2), some (.int a3), some (.int a4), some (.int a5), some (.int a6)] [] P Q := by
  unfold b_X6_placesLeft_18 at h
  refine x_iload dX6_placesLeft_18 rfl ?_
  refine x_aload_nr dX6_placesLeft_20 rfl ?_
  obtain ⟨v1, e2, h⟩ := Option.bind_eq_some_iff.mp h
  refine k_rI e2 dX6_placesLeft_21 f_X6_26 ?_
  refine x_icmp_ge 63 dX6_placesLeft_24 (by decide) (fun q14 => ?_) (fun q14 => ?_)
  · rw [if_pos q14] at h
    exact Wp.mask [true, true, true, true, true, true, true] (hrec 63 _ _ _ h _ _ rfl _ hQ)
  · rw [if_neg q14] at h
    refine x_iload dX6_placesLeft_27 rfl ?_
    refine x_if_eq 63 dX6_placesLeft_29 (by decide) (fun q13 => ?_) (fun q13 => ?_)
    · rw [if_pos q13] at h
      exact Wp.mask [true, true, true, true, true, true, true] (hrec 63 _ _ _ h _ _ rfl _ hQ)
    · rw [if_neg q13] at h
      refine x_aload_nr dX6_placesLeft_32 rfl ?_
      refine x_aload_nr dX6_placesLeft_33 rfl ?_
      obtain ⟨v3, e4, h⟩ := Option.bind_eq_some_iff.mp h
      refine k_rA e4 dX6_placesLeft_34 f_X6_9 ?_
      refine x_iload dX6_placesLeft_37 rfl ?_
      obtain ⟨v5, e6, h⟩ := Option.bind_eq_some_iff.mp h
      refine k_aI e6 dX6_placesLeft_39 ?_
      refine x_iload dX6_placesLeft_40 rfl ?_
      refine x_iload_n dX6_placesLeft_42 rfl ?_
      refine x_iload_n dX6_placesLeft_43 rfl ?_
      obtain ⟨_, e11, h⟩ := Option.bind_eq_some_iff.mp h
      obtain ⟨fse11, e11⟩ := kO_ok e11
      obtain ⟨r8, e9, h⟩ := Option.bind_eq_some_iff.mp h
      replace h := xI_ok h
      obtain ⟨v10, P7, rfl, h⟩ := h
      refine x_callV (c_X6_isTooFar hl e9) dX6_placesLeft_44 cw_X6_isTooFar wl_X6_49 wi_X6_isTooFar wse_X6_isTooFar rfl e11 (by decide) rfl (by omega) (by decide) rfl (Nat.le_of_ble_eq_true rfl) rfl (fun v9 P9 hq9 => ?_) (fun i9 P9 hq9 => by cases hq9)
      cases hq9
      refine x_if_ne 54 dX6_placesLeft_47 (by decide) (fun q12 => ?_) (fun q12 => ?_)
      · rw [if_pos q12] at h
        refine x_iconst 0 dX6_placesLeft_54 (by decide) ?_
        refine x_istore dX6_placesLeft_55 (Nat.le_of_ble_eq_true rfl) ?_
        refine x_iinc (a6 + 1) dX6_placesLeft_57 rfl (by rfl) ?_
        refine x_goto 18 dX6_placesLeft_60 (by decide) ?_
        exact Wp.mask [true, true, true, true, true, true, true] (hrec 18 _ _ _ h _ _ rfl _ hQ)
      · rw [if_neg (fun z9 => z9 q12)] at h
        refine x_iconst 1 dX6_placesLeft_50 (by decide) ?_
        refine x_goto 55 dX6_placesLeft_51 (by decide) ?_
        refine x_istore dX6_placesLeft_55 (Nat.le_of_ble_eq_true rfl) ?_
        refine x_iinc (a6 + 1) dX6_placesLeft_57 rfl (by rfl) ?_
        refine x_goto 18 dX6_placesLeft_60 (by decide) ?_
        exact Wp.mask [true, true, true, true, true, true, true] (hrec 18 _ _ _ h _ _ rfl _ hQ)
set_option maxHeartbeats 2000000 in
set_option maxRecDepth 20000 in
theorem t_X6_placesLeft_63 {G : xG} {l : Launch} (hl : l.stackTraces = false) {n : Nat} {rec : Nat → List Value → xH → xO} (hrec : ∀ pc env P z, rec pc env P = some z → ∀ L st, lay_X6_placesLeft pc env = some (L, st) → ∀ Q : xR → xH → Prop, Q z.1 z.2 → Wp G l 9 mX6_placesLeft pc L st P Q) {a0 a1 a2 a3 a4 a5 a6} {P : xH} {z : xR × xH} (h : b_X6_placesLeft_63 n rec a0 a1 a2 a3 a4 a5 a6 P = some z) {Q : xR → xH → Prop} (hQ : Q z.1 z.2) : Wp G l 9 mX6_placesLeft 63 [some (.ref a0), some (.int a1), some (.int a2), some (.int a3), some (.int a4), some (.int a5), some (.int a6)] [] P Q := by
  unfold b_X6_placesLeft_63 at h
  refine x_iload_n dX6_placesLeft_63 rfl ?_
  refine x_iload dX6_placesLeft_64 rfl ?_
  refine x_if_eq 76 dX6_placesLeft_66 (by decide) (fun q1 => ?_) (fun q1 => ?_)
  · rw [if_pos q1] at h
    refine x_iconst 0 dX6_placesLeft_76 (by decide) ?_
    refine x_ior dX6_placesLeft_77 ?_
    refine x_istore_n dX6_placesLeft_78 (Nat.le_of_ble_eq_true rfl) ?_
    refine x_iinc (a4 + 1) dX6_placesLeft_79 rfl (by rfl) ?_
    refine x_goto 5 dX6_placesLeft_82 (by decide) ?_
    exact Wp.mask [true, true, true, true, true, false, false] (hrec 5 _ _ _ h _ _ rfl _ hQ)
  · rw [if_neg q1] at h
    refine x_iconst 1 dX6_placesLeft_69 (by decide) ?_
    refine x_iload dX6_placesLeft_70 rfl ?_
    refine x_ishl dX6_placesLeft_72 ?_
    refine x_goto 77 dX6_placesLeft_73 (by decide) ?_
    refine x_ior dX6_placesLeft_77 ?_
    refine x_istore_n dX6_placesLeft_78 (Nat.le_of_ble_eq_true rfl) ?_
    refine x_iinc (a4 + 1) dX6_placesLeft_79 rfl (by rfl) ?_
    refine x_goto 5 dX6_placesLeft_82 (by decide) ?_
    exact Wp.mask [true, true, true, true, true, false, false] (hrec 5 _ _ _ h _ _ rfl _ hQ)
theorem s_X6_placesLeft {G : xG} {l : Launch} (hl : l.stackTraces = false) : ∀ n pc env P z, f_X6_placesLeft n pc env P = some z → ∀ L st, lay_X6_placesLeft pc env = some (L, st) → ∀ Q : xR → xH → Prop, Q z.1 z.2 → Wp G l 9 mX6_placesLeft pc L st P Q := by
  intro n
  induction n with
  | zero => intro pc env P z h; cases h
  | succ n ih =>
    intro pc env P z h L st hlay Q hQ
    unfold f_X6_placesLeft at h
    split at h
    · cases hlay
      exact t_X6_placesLeft_0 hl ih h hQ
    · cases hlay
      exact t_X6_placesLeft_5 hl ih h hQ
    · cases hlay
      exact t_X6_placesLeft_18 hl ih h hQ
    · cases hlay
      exact t_X6_placesLeft_63 hl ih h hQ
    · cases h
theorem c_X6_placesLeft {G : xG} {l : Launch} (hl : l.stackTraces = false) {n : Nat} {as : List Value} {P : xH} {z : xR × xH} (h : f_X6_placesLeft n 0 as P = some z) : Ct G l 9 mX6_placesLeft as P (fun r P1 => (r, P1) = z) := by
  cases n with
  | zero => cases h
  | succ n =>
    unfold f_X6_placesLeft at h
    split at h
    · exact Ct.of hl (by decide +kernel) wc_X6_placesLeft (Nat.le_of_ble_eq_true rfl) (t_X6_placesLeft_0 hl (s_X6_placesLeft hl _) h rfl)
    all_goals first | (cases h; done) | (rename_i q9 _; exact absurd q9 (by decide)) | (rename_i q9; exact absurd q9 (by decide)) | contradiction
/-! QuakeNet.could(III)I -/
def b_X10_could_0 (n : Nat) (rec : Nat → List Value → xH → xO) (a0 : Nat) (a1 : Int32) (a2 : Int32) (a3 : Int32) (P : xH) : xO :=
  (f_X10_needIndex n 0 [.int a1, .int 16] P).bind fun r2 => xUt r2 fun P1 =>
  (f_X10_needWithin n 0 [.int a2, .int 0, .int 400] P1).bind fun r5 => xUt r5 fun P4 =>
  (rA P4 a0 10 3).bind fun v7 =>
  (kO P4 v7 6).bind fun _ =>
  (f_X6_gather n 0 [.ref v7, .int a1, .int a3] P4).bind fun r10 => xU r10 fun P9 =>
  (rA P9 a0 10 3).bind fun v13 =>
  (rA P9 a0 10 1).bind fun v15 =>
  (rI P9 v15 7 8).bind fun v17 =>
  (kO P9 v13 6).bind fun _ =>
  (f_X6_placesLeft n 0 [.ref v13, .int a2, .int v17] P9).bind fun r20 => xI r20 fun v22 P19 =>
  some (.inl (some (.int v22)), P19)
def lay_X10_could : Nat → List Value → Option (xL × List Value)
  | 0, [a0, a1, a2, a3] => some ([some a0, some a1, some a2, some a3], [])
  | _, _ => none
def f_X10_could : Nat → Nat → List Value → xH → xO
  | 0 => fun _ _ _ => none
  | n + 1 => fun pc env P => match pc, env with
    | 0, [.ref a0, .int a1, .int a2, .int a3] => b_X10_could_0 n (f_X10_could n) a0 a1 a2 a3 P
    | _, _ => none
set_option maxHeartbeats 2000000 in
set_option maxRecDepth 20000 in
theorem t_X10_could_0 {G : xG} {l : Launch} (hl : l.stackTraces = false) {n : Nat} {rec : Nat → List Value → xH → xO} (hrec : ∀ pc env P z, rec pc env P = some z → ∀ L st, lay_X10_could pc env = some (L, st) → ∀ Q : xR → xH → Prop, Q z.1 z.2 → Wp G l 10 mX10_could pc L st P Q) {a0 a1 a2 a3} {P : xH} {z : xR × xH} (h : b_X10_could_0 n rec a0 a1 a2 a3 P = some z) {Q : xR → xH → Prop} (hQ : Q z.1 z.2) : Wp G l 10 mX10_could 0 [some (.ref a0), some (.int a1), some (.int a2), some (.int a3)] [] P Q := by
  unfold b_X10_could_0 at h
  refine x_iload_n dX10_could_0 rfl ?_
  refine x_bipush 16 dX10_could_1 (by decide) ?_
  obtain ⟨r2, e3, h⟩ := Option.bind_eq_some_iff.mp h
  replace h := xUt_ok h
  rcases h with ⟨P1, hr9, h⟩ | ⟨i8, P8, rfl, rfl⟩
  · subst hr9
    refine x_callS (c_X10_needIndex hl e3) dX10_could_3 cw_X10_needIndex wl_X10_87 ws_X10_needIndex rfl (by omega) (by decide) rfl (Nat.le_of_ble_eq_true rfl) rfl (fun v9 P9 hq9 => ?_) (fun i9 P9 hq9 => by cases hq9)
    cases hq9
    refine x_iload_n dX10_could_6 rfl ?_
    refine x_iconst 0 dX10_could_7 (by decide) ?_
    refine x_sipush 400 dX10_could_8 (by decide) ?_
    obtain ⟨r5, e6, h⟩ := Option.bind_eq_some_iff.mp h
    replace h := xUt_ok h
    rcases h with ⟨P4, hr9, h⟩ | ⟨i8, P8, rfl, rfl⟩
    · subst hr9
      refine x_callS (c_X10_needWithin hl e6) dX10_could_11 cw_X10_needWithin wl_X10_67 ws_X10_needWithin rfl (by omega) (by decide) rfl (Nat.le_of_ble_eq_true rfl) rfl (fun v9 P9 hq9 => ?_) (fun i9 P9 hq9 => by cases hq9)
      cases hq9
      refine x_aload_nr dX10_could_14 rfl ?_
      obtain ⟨v7, e8, h⟩ := Option.bind_eq_some_iff.mp h
      refine k_rA e8 dX10_could_15 f_X10_48 ?_
      refine x_iload_n dX10_could_18 rfl ?_
      refine x_iload_n dX10_could_19 rfl ?_
      obtain ⟨_, e12, h⟩ := Option.bind_eq_some_iff.mp h
      obtain ⟨fse12, e12⟩ := kO_ok e12
      obtain ⟨r10, e11, h⟩ := Option.bind_eq_some_iff.mp h
      replace h := xU_ok h
      obtain ⟨P9, rfl, h⟩ := h
      refine x_callV (c_X6_gather hl e11) dX10_could_20 cw_X6_gather wl_X10_201 wi_X6_gather wse_X6_gather rfl e12 (by decide) rfl (by omega) (by decide) rfl (Nat.le_of_ble_eq_true rfl) rfl (fun v9 P9 hq9 => ?_) (fun i9 P9 hq9 => by cases hq9)
      cases hq9
      refine x_aload_nr dX10_could_23 rfl ?_
      obtain ⟨v13, e14, h⟩ := Option.bind_eq_some_iff.mp h
      refine k_rA e14 dX10_could_24 f_X10_48 ?_
      refine x_iload_n dX10_could_27 rfl ?_
      refine x_aload_nr dX10_could_28 rfl ?_
      obtain ⟨v15, e16, h⟩ := Option.bind_eq_some_iff.mp h
      refine k_rA e16 dX10_could_29 f_X10_19 ?_
      obtain ⟨v17, e18, h⟩ := Option.bind_eq_some_iff.mp h
      refine k_rI e18 dX10_could_32 f_X10_213 ?_
      obtain ⟨_, e23, h⟩ := Option.bind_eq_some_iff.mp h
      obtain ⟨fse23, e23⟩ := kO_ok e23
      obtain ⟨r20, e21, h⟩ := Option.bind_eq_some_iff.mp h
      replace h := xI_ok h
      obtain ⟨v22, P19, rfl, h⟩ := h
      refine x_callV (c_X6_placesLeft hl e21) dX10_could_35 cw_X6_placesLeft wl_X10_216 wi_X6_placesLeft wse_X6_placesLeft rfl e23 (by decide) rfl (by omega) (by decide) rfl (Nat.le_of_ble_eq_true rfl) rfl (fun v9 P9 hq9 => ?_) (fun i9 P9 hq9 => by cases hq9)
      cases hq9
      cases h
      exact x_iret .int rfl rfl dX10_could_38 hQ
    · exact x_callS (c_X10_needWithin hl e6) dX10_could_11 cw_X10_needWithin wl_X10_67 ws_X10_needWithin rfl (by omega) (by decide) rfl (Nat.le_of_ble_eq_true rfl) rfl (fun v9 P9 hq9 => by cases hq9) (fun i9 P9 hq9 => by cases hq9; exact hQ)
  · exact x_callS (c_X10_needIndex hl e3) dX10_could_3 cw_X10_needIndex wl_X10_87 ws_X10_needIndex rfl (by omega) (by decide) rfl (Nat.le_of_ble_eq_true rfl) rfl (fun v9 P9 hq9 => by cases hq9) (fun i9 P9 hq9 => by cases hq9; exact hQ)
theorem s_X10_could {G : xG} {l : Launch} (hl : l.stackTraces = false) : ∀ n pc env P z, f_X10_could n pc env P = some z → ∀ L st, lay_X10_could pc env = some (L, st) → ∀ Q : xR → xH → Prop, Q z.1 z.2 → Wp G l 10 mX10_could pc L st P Q := by
  intro n
  induction n with
  | zero => intro pc env P z h; cases h
  | succ n ih =>
    intro pc env P z h L st hlay Q hQ
    unfold f_X10_could at h
    split at h
    · cases hlay
      exact t_X10_could_0 hl ih h hQ
    · cases h
theorem c_X10_could {G : xG} {l : Launch} (hl : l.stackTraces = false) {n : Nat} {as : List Value} {P : xH} {z : xR × xH} (h : f_X10_could n 0 as P = some z) : Ct G l 10 mX10_could as P (fun r P1 => (r, P1) = z) := by
  cases n with
  | zero => cases h
  | succ n =>
    unfold f_X10_could at h
    split at h
    · exact Ct.of hl (by decide +kernel) wc_X10_could (Nat.le_of_ble_eq_true rfl) (t_X10_could_0 hl (s_X10_could hl _) h rfl)
    all_goals first | (cases h; done) | (rename_i q9 _; exact absurd q9 (by decide)) | (rename_i q9; exact absurd q9 (by decide)) | contradiction
