/-! java/util/Arrays.fill([II)V -/
def b_J7_fill_53178_0 (n : Nat) (rec : Nat → List Value → xH → xO) (a0 : Nat) (a1 : Int32) (P : xH) : xO :=
  (aL P a0).bind fun v1 =>
  rec 5 [.ref a0, .int a1, .int 0, .int v1] P
def b_J7_fill_53178_5 (n : Nat) (rec : Nat → List Value → xH → xO) (a0 : Nat) (a1 : Int32) (a2 : Int32) (a3 : Int32) (P : xH) : xO :=
  if a3 ≤ a2 then
    some (.inl none, P)
  else
    (sI P a0 a2 a1).bind fun P1 =>
    rec 5 [.ref a0, .int a1, .int ((a2 + 1)), .int a3] P1
def lay_J7_fill_53178 : Nat → List Value → Option (xL × List Value)
  | 0, [a0, a1] => some ([some a0, some a1, none, none], [])
  | 5, [a0, a1, a2, a3] => some ([some a0, some a1, some a2, some a3], [])
  | _, _ => none
def f_J7_fill_53178 : Nat → Nat → List Value → xH → xO
  | 0 => fun _ _ _ => none
  | n + 1 => fun pc env P => match pc, env with
    | 0, [.ref a0, .int a1] => b_J7_fill_53178_0 n (f_J7_fill_53178 n) a0 a1 P
    | 5, [.ref a0, .int a1, .int a2, .int a3] => b_J7_fill_53178_5 n (f_J7_fill_53178 n) a0 a1 a2 a3 P
    | _, _ => none
set_option maxHeartbeats 2000000 in
set_option maxRecDepth 20000 in
theorem t_J7_fill_53178_0 {G : xG} {l : Launch} (hl : l.stackTraces = false) {n : Nat} {rec : Nat → List Value → xH → xO} (hrec : ∀ pc env P z, rec pc env P = some z → ∀ L st, lay_J7_fill_53178 pc env = some (L, st) → ∀ Q : xR → xH → Prop, Q z.1 z.2 → Wp G l 3 mJ7_fill_53178 pc L st P Q) {a0 a1} {P : xH} {z : xR × xH} (h : b_J7_fill_53178_0 n rec a0 a1 P = some z) {Q : xR → xH → Prop} (hQ : Q z.1 z.2) : Wp G l 3 mJ7_fill_53178 0 [some (.ref a0), some (.int a1), none, none] [] P Q := by
  unfold b_J7_fill_53178_0 at h
  refine x_iconst 0 dJ7_fill_53178_0 (by decide) ?_
  refine x_istore_n dJ7_fill_53178_1 (Nat.le_of_ble_eq_true rfl) ?_
  refine x_aload_nr dJ7_fill_53178_2 rfl ?_
  obtain ⟨v1, e2, h⟩ := Option.bind_eq_some_iff.mp h
  refine k_aL e2 dJ7_fill_53178_3 ?_
  refine x_istore_n dJ7_fill_53178_4 (Nat.le_of_ble_eq_true rfl) ?_
  exact Wp.mask [true, true, true, true] (hrec 5 _ _ _ h _ _ rfl _ hQ)
set_option maxHeartbeats 2000000 in
set_option maxRecDepth 20000 in
theorem t_J7_fill_53178_5 {G : xG} {l : Launch} (hl : l.stackTraces = false) {n : Nat} {rec : Nat → List Value → xH → xO} (hrec : ∀ pc env P z, rec pc env P = some z → ∀ L st, lay_J7_fill_53178 pc env = some (L, st) → ∀ Q : xR → xH → Prop, Q z.1 z.2 → Wp G l 3 mJ7_fill_53178 pc L st P Q) {a0 a1 a2 a3} {P : xH} {z : xR × xH} (h : b_J7_fill_53178_5 n rec a0 a1 a2 a3 P = some z) {Q : xR → xH → Prop} (hQ : Q z.1 z.2) : Wp G l 3 mJ7_fill_53178 5 [some (.ref a0), some (.int a1), some (.int a2), some (.int a3)] [] P Q := by
  unfold b_J7_fill_53178_5 at h
  refine x_iload_n dJ7_fill_53178_5 rfl ?_
  refine x_iload_n dJ7_fill_53178_6 rfl ?_
  refine x_icmp_ge 20 dJ7_fill_53178_7 (by decide) (fun q3 => ?_) (fun q3 => ?_)
  · rw [if_pos q3] at h
    cases h
    exact x_ret rfl dJ7_fill_53178_20 hQ
  · rw [if_neg q3] at h
    refine x_aload_nr dJ7_fill_53178_10 rfl ?_
    refine x_iload_n dJ7_fill_53178_11 rfl ?_
    refine x_iload_n dJ7_fill_53178_12 rfl ?_
    obtain ⟨P1, e2, h⟩ := Option.bind_eq_some_iff.mp h
    refine k_sI e2 dJ7_fill_53178_13 ?_
    refine x_iinc (a2 + 1) dJ7_fill_53178_14 rfl (by rfl) ?_
    refine x_goto 5 dJ7_fill_53178_17 (by decide) ?_
    exact Wp.mask [true, true, true, true] (hrec 5 _ _ _ h _ _ rfl _ hQ)
theorem s_J7_fill_53178 {G : xG} {l : Launch} (hl : l.stackTraces = false) : ∀ n pc env P z, f_J7_fill_53178 n pc env P = some z → ∀ L st, lay_J7_fill_53178 pc env = some (L, st) → ∀ Q : xR → xH → Prop, Q z.1 z.2 → Wp G l 3 mJ7_fill_53178 pc L st P Q := by
  intro n
  induction n with
  | zero => intro pc env P z h; cases h
  | succ n ih =>
    intro pc env P z h L st hlay Q hQ
    unfold f_J7_fill_53178 at h
    split at h
    · cases hlay
      exact t_J7_fill_53178_0 hl ih h hQ
    · cases hlay
      exact t_J7_fill_53178_5 hl ih h hQ
    · cases h
theorem c_J7_fill_53178 {G : xG} {l : Launch} (hl : l.stackTraces = false) {n : Nat} {as : List Value} {P : xH} {z : xR × xH} (h : f_J7_fill_53178 n 0 as P = some z) : Ct G l 3 mJ7_fill_53178 as P (fun r P1 => (r, P1) = z) := by
  cases n with
  | zero => cases h
  | succ n =>
    unfold f_J7_fill_53178 at h
    split at h
    · exact Ct.of hl (by decide +kernel) wc_J7_fill_53178 (Nat.le_of_ble_eq_true rfl) (t_J7_fill_53178_0 hl (s_J7_fill_53178 hl _) h rfl)
    all_goals first | (cases h; done) | (rename_i q9 _; exact absurd q9 (by decide)) | (rename_i q9; exact absurd q9 (by decide)) | contradiction
/-! QuakeNet$Net.<init>(LQuakeNet$Words;LQuakeNet$Rules;)V -/
def b_X1_init_0 (n : Nat) (rec : Nat → List Value → xH → xO) (a0 : Nat) (a1 : Nat) (a2 : Nat) (P : xH) : xO :=
  (nM' P 8 10).bind fun P1 =>
  (wV P1 a0 1 5 (.ref P.1)).bind fun P3 =>
  (nM' P3 4 300).bind fun P5 =>
  (wV P5 a0 1 6 (.ref P3.1)).bind fun P7 =>
  (nJ' P7 300).bind fun P9 =>
  (wV P9 a0 1 7 (.ref P7.1)).bind fun P11 =>
  (nI' P11 10).bind fun P13 =>
  (wV P13 a0 1 8 (.ref P11.1)).bind fun P15 =>
  (nI' P15 30).bind fun P17 =>
  (wV P17 a0 1 9 (.ref P15.1)).bind fun P19 =>
  (nI' P19 30).bind fun P21 =>
  (wV P21 a0 1 10 (.ref P19.1)).bind fun P23 =>
  (nI' P23 30).bind fun P25 =>
  (wV P25 a0 1 11 (.ref P23.1)).bind fun P27 =>
  (nJ' P27 30).bind fun P29 =>
  (wV P29 a0 1 12 (.ref P27.1)).bind fun P31 =>
  (nI' P31 10).bind fun P33 =>
  (wV P33 a0 1 13 (.ref P31.1)).bind fun P35 =>
  (wV P35 a0 1 0 (.ref a1)).bind fun P37 =>
  (wV P37 a0 1 1 (.ref a2)).bind fun P39 =>
  (rA P39 a0 1 10).bind fun v41 =>
  (f_J7_fill_53178 n 0 [.ref v41, .int ((-1))] P39).bind fun r44 => xU r44 fun P43 =>
  some (.inl none, P43)
def lay_X1_init : Nat → List Value → Option (xL × List Value)
  | 0, [a0, a1, a2] => some ([some a0, some a1, some a2], [])
  | _, _ => none
def f_X1_init : Nat → Nat → List Value → xH → xO
  | 0 => fun _ _ _ => none
  | n + 1 => fun pc env P => match pc, env with
    | 0, [.ref a0, .ref a1, .ref a2] => b_X1_init_0 n (f_X1_init n) a0 a1 a2 P
    | _, _ => none
set_option maxHeartbeats 2000000 in
set_option maxRecDepth 20000 in
theorem t_X1_init_0 {G : xG} {l : Launch} (hl : l.stackTraces = false) {n : Nat} {rec : Nat → List Value → xH → xO} (hrec : ∀ pc env P z, rec pc env P = some z → ∀ L st, lay_X1_init pc env = some (L, st) → ∀ Q : xR → xH → Prop, Q z.1 z.2 → Wp G l 4 mX1_init pc L st P Q) {a0 a1 a2} {P : xH} {z : xR × xH} (h : b_X1_init_0 n rec a0 a1 a2 P = some z) {Q : xR → xH → Prop} (hQ : Q z.1 z.2) : Wp G l 4 mX1_init 0 [some (.ref a0), some (.ref a1), some (.ref a2)] [] P Q := by
  unfold b_X1_init_0 at h
  refine x_aload_nr dX1_init_0 rfl ?_
  refine x_objInit dX1_init_1 wl_X1_3 wi_objectInit wc_objectInit (Nat.le_of_ble_eq_true rfl) (by omega) ?_
  refine x_aload_nr dX1_init_4 rfl ?_
  refine x_bipush 8 dX1_init_5 (by decide) ?_
  refine x_bipush 10 dX1_init_7 (by decide) ?_
  obtain ⟨P1, e2, h⟩ := Option.bind_eq_some_iff.mp h
  refine k_nM e2 dX1_init_9 wk_X1_11 ?_
  obtain ⟨P3, e4, h⟩ := Option.bind_eq_some_iff.mp h
  refine k_wA e4 dX1_init_13 f_X1_13 (Or.inr ⟨by decide, rfl, rfl⟩) rfl ?_
  refine x_aload_nr dX1_init_16 rfl ?_
  refine x_iconst 4 dX1_init_17 (by decide) ?_
  refine x_sipush 300 dX1_init_18 (by decide) ?_
  obtain ⟨P5, e6, h⟩ := Option.bind_eq_some_iff.mp h
  refine k_nM e6 dX1_init_21 wk_X1_11 ?_
  obtain ⟨P7, e8, h⟩ := Option.bind_eq_some_iff.mp h
  refine k_wA e8 dX1_init_25 f_X1_16 (Or.inr ⟨by decide, rfl, rfl⟩) rfl ?_
  refine x_aload_nr dX1_init_28 rfl ?_
  refine x_sipush 300 dX1_init_29 (by decide) ?_
  obtain ⟨P9, e10, h⟩ := Option.bind_eq_some_iff.mp h
  refine k_nJ e10 dX1_init_32 ?_
  obtain ⟨P11, e12, h⟩ := Option.bind_eq_some_iff.mp h
  refine k_wA e12 dX1_init_34 f_X1_19 (Or.inr ⟨by decide, rfl, rfl⟩) rfl ?_
  refine x_aload_nr dX1_init_37 rfl ?_
  refine x_bipush 10 dX1_init_38 (by decide) ?_
  obtain ⟨P13, e14, h⟩ := Option.bind_eq_some_iff.mp h
  refine k_nI e14 dX1_init_40 ?_
  obtain ⟨P15, e16, h⟩ := Option.bind_eq_some_iff.mp h
  refine k_wA e16 dX1_init_42 f_X1_23 (Or.inr ⟨by decide, rfl, rfl⟩) rfl ?_
  refine x_aload_nr dX1_init_45 rfl ?_
  refine x_bipush 30 dX1_init_46 (by decide) ?_
  obtain ⟨P17, e18, h⟩ := Option.bind_eq_some_iff.mp h
  refine k_nI e18 dX1_init_48 ?_
  obtain ⟨P19, e20, h⟩ := Option.bind_eq_some_iff.mp h
  refine k_wA e20 dX1_init_50 f_X1_27 (Or.inr ⟨by decide, rfl, rfl⟩) rfl ?_
  refine x_aload_nr dX1_init_53 rfl ?_
  refine x_bipush 30 dX1_init_54 (by decide) ?_
  obtain ⟨P21, e22, h⟩ := Option.bind_eq_some_iff.mp h
  refine k_nI e22 dX1_init_56 ?_
  obtain ⟨P23, e24, h⟩ := Option.bind_eq_some_iff.mp h
  refine k_wA e24 dX1_init_58 f_X1_30 (Or.inr ⟨by decide, rfl, rfl⟩) rfl ?_
  refine x_aload_nr dX1_init_61 rfl ?_
  refine x_bipush 30 dX1_init_62 (by decide) ?_
  obtain ⟨P25, e26, h⟩ := Option.bind_eq_some_iff.mp h
  refine k_nI e26 dX1_init_64 ?_
  obtain ⟨P27, e28, h⟩ := Option.bind_eq_some_iff.mp h
  refine k_wA e28 dX1_init_66 f_X1_33 (Or.inr ⟨by decide, rfl, rfl⟩) rfl ?_
  refine x_aload_nr dX1_init_69 rfl ?_
  refine x_bipush 30 dX1_init_70 (by decide) ?_
  obtain ⟨P29, e30, h⟩ := Option.bind_eq_some_iff.mp h
  refine k_nJ e30 dX1_init_72 ?_
  obtain ⟨P31, e32, h⟩ := Option.bind_eq_some_iff.mp h
  refine k_wA e32 dX1_init_74 f_X1_36 (Or.inr ⟨by decide, rfl, rfl⟩) rfl ?_
  refine x_aload_nr dX1_init_77 rfl ?_
  refine x_bipush 10 dX1_init_78 (by decide) ?_
  obtain ⟨P33, e34, h⟩ := Option.bind_eq_some_iff.mp h
  refine k_nI e34 dX1_init_80 ?_
  obtain ⟨P35, e36, h⟩ := Option.bind_eq_some_iff.mp h
  refine k_wA e36 dX1_init_82 f_X1_39 (Or.inr ⟨by decide, rfl, rfl⟩) rfl ?_
  refine x_aload_nr dX1_init_85 rfl ?_
  refine x_aload_nr dX1_init_86 rfl ?_
  obtain ⟨P37, e38, h⟩ := Option.bind_eq_some_iff.mp h
  refine k_wA e38 dX1_init_87 f_X1_42 (Or.inr ⟨by decide, rfl, rfl⟩) rfl ?_
  refine x_aload_nr dX1_init_90 rfl ?_
  refine x_aload_nr dX1_init_91 rfl ?_
  obtain ⟨P39, e40, h⟩ := Option.bind_eq_some_iff.mp h
  refine k_wA e40 dX1_init_92 f_X1_46 (Or.inl (by decide)) rfl ?_
  refine x_aload_nr dX1_init_95 rfl ?_
  obtain ⟨v41, e42, h⟩ := Option.bind_eq_some_iff.mp h
  refine k_rA e42 dX1_init_96 f_X1_30 ?_
  refine x_iconst (-1) dX1_init_99 (by decide) ?_
  obtain ⟨r44, e45, h⟩ := Option.bind_eq_some_iff.mp h
  replace h := xU_ok h
  obtain ⟨P43, rfl, h⟩ := h
  refine x_callS (c_J7_fill_53178 hl e45) dX1_init_100 cw_J7_fill_53178 wl_X1_50 ws_J7_fill_53178 rfl (by omega) (by decide) rfl (Nat.le_of_ble_eq_true rfl) rfl (fun v9 P9 hq9 => ?_) (fun i9 P9 hq9 => by cases hq9)
  cases hq9
  cases h
  exact x_ret rfl dX1_init_103 hQ
theorem s_X1_init {G : xG} {l : Launch} (hl : l.stackTraces = false) : ∀ n pc env P z, f_X1_init n pc env P = some z → ∀ L st, lay_X1_init pc env = some (L, st) → ∀ Q : xR → xH → Prop, Q z.1 z.2 → Wp G l 4 mX1_init pc L st P Q := by
  intro n
  induction n with
  | zero => intro pc env P z h; cases h
  | succ n ih =>
    intro pc env P z h L st hlay Q hQ
    unfold f_X1_init at h
    split at h
    · cases hlay
      exact t_X1_init_0 hl ih h hQ
    · cases h
theorem c_X1_init {G : xG} {l : Launch} (hl : l.stackTraces = false) {n : Nat} {as : List Value} {P : xH} {z : xR × xH} (h : f_X1_init n 0 as P = some z) : Ct G l 4 mX1_init as P (fun r P1 => (r, P1) = z) := by
  cases n with
  | zero => cases h
  | succ n =>
    unfold f_X1_init at h
    split at h
    · exact Ct.of hl (by decide +kernel) wc_X1_init (Nat.le_of_ble_eq_true rfl) (t_X1_init_0 hl (s_X1_init hl _) h rfl)
    all_goals first | (cases h; done) | (rename_i q9 _; exact absurd q9 (by decide)) | (rename_i q9; exact absurd q9 (by decide)) | contradiction
/-! QuakeNet$Rules.<init>()V -/
def b_X5_init_0 (n : Nat) (rec : Nat → List Value → xH → xO) (a0 : Nat) (P : xH) : xO :=
  (nI' P 10).bind fun P1 =>
  (wV P1 a0 5 0 (.ref P.1)).bind fun P3 =>
  (nI' P3 10).bind fun P5 =>
  (wV P5 a0 5 1 (.ref P3.1)).bind fun P7 =>
  (nI' P7 11).bind fun P9 =>
  (wV P9 a0 5 2 (.ref P7.1)).bind fun P11 =>
  (nI' P11 200).bind fun P13 =>
  (wV P13 a0 5 4 (.ref P11.1)).bind fun P15 =>
  (nI' P15 5).bind fun P17 =>
  (wV P17 a0 5 6 (.ref P15.1)).bind fun P19 =>
  some (.inl none, P19)
def lay_X5_init : Nat → List Value → Option (xL × List Value)
  | 0, [a0] => some ([some a0], [])
  | _, _ => none
def f_X5_init : Nat → Nat → List Value → xH → xO
  | 0 => fun _ _ _ => none
  | n + 1 => fun pc env P => match pc, env with
    | 0, [.ref a0] => b_X5_init_0 n (f_X5_init n) a0 P
    | _, _ => none
set_option maxHeartbeats 2000000 in
set_option maxRecDepth 20000 in
theorem t_X5_init_0 {G : xG} {l : Launch} (hl : l.stackTraces = false) {n : Nat} {rec : Nat → List Value → xH → xO} (hrec : ∀ pc env P z, rec pc env P = some z → ∀ L st, lay_X5_init pc env = some (L, st) → ∀ Q : xR → xH → Prop, Q z.1 z.2 → Wp G l 3 mX5_init pc L st P Q) {a0} {P : xH} {z : xR × xH} (h : b_X5_init_0 n rec a0 P = some z) {Q : xR → xH → Prop} (hQ : Q z.1 z.2) : Wp G l 3 mX5_init 0 [some (.ref a0)] [] P Q := by
  unfold b_X5_init_0 at h
  refine x_aload_nr dX5_init_0 rfl ?_
  refine x_objInit dX5_init_1 wl_X5_1 wi_objectInit wc_objectInit (Nat.le_of_ble_eq_true rfl) (by omega) ?_
  refine x_aload_nr dX5_init_4 rfl ?_
  refine x_bipush 10 dX5_init_5 (by decide) ?_
  obtain ⟨P1, e2, h⟩ := Option.bind_eq_some_iff.mp h
  refine k_nI e2 dX5_init_7 ?_
  obtain ⟨P3, e4, h⟩ := Option.bind_eq_some_iff.mp h
  refine k_wA e4 dX5_init_9 f_X5_9 (Or.inr ⟨by decide, rfl, rfl⟩) rfl ?_
  refine x_aload_nr dX5_init_12 rfl ?_
  refine x_bipush 10 dX5_init_13 (by decide) ?_
  obtain ⟨P5, e6, h⟩ := Option.bind_eq_some_iff.mp h
  refine k_nI e6 dX5_init_15 ?_
  obtain ⟨P7, e8, h⟩ := Option.bind_eq_some_iff.mp h
  refine k_wA e8 dX5_init_17 f_X5_13 (Or.inr ⟨by decide, rfl, rfl⟩) rfl ?_
  refine x_aload_nr dX5_init_20 rfl ?_
  refine x_bipush 11 dX5_init_21 (by decide) ?_
  obtain ⟨P9, e10, h⟩ := Option.bind_eq_some_iff.mp h
  refine k_nI e10 dX5_init_23 ?_
  obtain ⟨P11, e12, h⟩ := Option.bind_eq_some_iff.mp h
  refine k_wA e12 dX5_init_25 f_X5_16 (Or.inr ⟨by decide, rfl, rfl⟩) rfl ?_
  refine x_aload_nr dX5_init_28 rfl ?_
  refine x_sipush 200 dX5_init_29 (by decide) ?_
  obtain ⟨P13, e14, h⟩ := Option.bind_eq_some_iff.mp h
  refine k_nI e14 dX5_init_32 ?_
  obtain ⟨P15, e16, h⟩ := Option.bind_eq_some_iff.mp h
  refine k_wA e16 dX5_init_34 f_X5_19 (Or.inr ⟨by decide, rfl, rfl⟩) rfl ?_
  refine x_aload_nr dX5_init_37 rfl ?_
  refine x_iconst 5 dX5_init_38 (by decide) ?_
  obtain ⟨P17, e18, h⟩ := Option.bind_eq_some_iff.mp h
  refine k_nI e18 dX5_init_39 ?_
  obtain ⟨P19, e20, h⟩ := Option.bind_eq_some_iff.mp h
  refine k_wA e20 dX5_init_41 f_X5_22 (Or.inr ⟨by decide, rfl, rfl⟩) rfl ?_
  cases h
  exact x_ret rfl dX5_init_44 hQ
theorem s_X5_init {G : xG} {l : Launch} (hl : l.stackTraces = false) : ∀ n pc env P z, f_X5_init n pc env P = some z → ∀ L st, lay_X5_init pc env = some (L, st) → ∀ Q : xR → xH → Prop, Q z.1 z.2 → Wp G l 3 mX5_init pc L st P Q := by
  intro n
  induction n with
  | zero => intro pc env P z h; cases h
  | succ n ih =>
    intro pc env P z h L st hlay Q hQ
    unfold f_X5_init at h
    split at h
    · cases hlay
      exact t_X5_init_0 hl ih h hQ
    · cases h
theorem c_X5_init {G : xG} {l : Launch} (hl : l.stackTraces = false) {n : Nat} {as : List Value} {P : xH} {z : xR × xH} (h : f_X5_init n 0 as P = some z) : Ct G l 3 mX5_init as P (fun r P1 => (r, P1) = z) := by
  cases n with
  | zero => cases h
  | succ n =>
    unfold f_X5_init at h
    split at h
    · exact Ct.of hl (by decide +kernel) wc_X5_init (Nat.le_of_ble_eq_true rfl) (t_X5_init_0 hl (s_X5_init hl _) h rfl)
    all_goals first | (cases h; done) | (rename_i q9 _; exact absurd q9 (by decide)) | (rename_i q9; exact absurd q9 (by decide)) | contradiction
/-! QuakeNet$Reader.<init>()V -/
def b_X3_init_0 (n : Nat) (rec : Nat → List Value → xH → xO) (a0 : Nat) (P : xH) : xO :=
  (nO P 5).bind fun P1 =>
  (f_X5_init n 0 [.ref P.1] P1).bind fun r4 => xU r4 fun P3 =>
  (wV P3 a0 3 0 (.ref P.1)).bind fun P6 =>
  (nB' P6 400).bind fun P8 =>
  (wV P8 a0 3 1 (.ref P6.1)).bind fun P10 =>
  (wV P10 a0 3 3 (.int ((-1)))).bind fun P12 =>
  some (.inl none, P12)
def lay_X3_init : Nat → List Value → Option (xL × List Value)
  | 0, [a0] => some ([some a0], [])
  | _, _ => none
def f_X3_init : Nat → Nat → List Value → xH → xO
  | 0 => fun _ _ _ => none
  | n + 1 => fun pc env P => match pc, env with
    | 0, [.ref a0] => b_X3_init_0 n (f_X3_init n) a0 P
    | _, _ => none
set_option maxHeartbeats 2000000 in
set_option maxRecDepth 20000 in
theorem t_X3_init_0 {G : xG} {l : Launch} (hl : l.stackTraces = false) {n : Nat} {rec : Nat → List Value → xH → xO} (hrec : ∀ pc env P z, rec pc env P = some z → ∀ L st, lay_X3_init pc env = some (L, st) → ∀ Q : xR → xH → Prop, Q z.1 z.2 → Wp G l 4 mX3_init pc L st P Q) {a0} {P : xH} {z : xR × xH} (h : b_X3_init_0 n rec a0 P = some z) {Q : xR → xH → Prop} (hQ : Q z.1 z.2) : Wp G l 4 mX3_init 0 [some (.ref a0)] [] P Q := by
  unfold b_X3_init_0 at h
  refine x_aload_nr dX3_init_0 rfl ?_
  refine x_objInit dX3_init_1 wl_X3_3 wi_objectInit wc_objectInit (Nat.le_of_ble_eq_true rfl) (by omega) ?_
  refine x_aload_nr dX3_init_4 rfl ?_
  obtain ⟨P1, e2, h⟩ := Option.bind_eq_some_iff.mp h
  refine k_nO e2 (by decide) dX3_init_5 wk_X3_9 wins_X5 wini_X5 xok_5 ?_
  refine x_dup dX3_init_8 rfl ?_
  obtain ⟨r4, e5, h⟩ := Option.bind_eq_some_iff.mp h
  replace h := xU_ok h
  obtain ⟨P3, rfl, h⟩ := h
  refine x_callIN (c_X5_init hl e5) dX3_init_9 cw_X5_init rfl rfl wn_X3_11 wi_X5_init rfl (by omega) (by decide) rfl (Nat.le_of_ble_eq_true rfl) (fun i9 P9 hq9 => by cases hq9) (fun v9 P9 hq9 => ?_)
  cases hq9
  obtain ⟨P6, e7, h⟩ := Option.bind_eq_some_iff.mp h
  refine k_wA e7 dX3_init_12 f_X3_12 (Or.inr ⟨by decide, rfl, rfl⟩) rfl ?_
  refine x_aload_nr dX3_init_15 rfl ?_
  refine x_sipush 400 dX3_init_16 (by decide) ?_
  obtain ⟨P8, e9, h⟩ := Option.bind_eq_some_iff.mp h
  refine k_nB e9 dX3_init_19 ?_
  obtain ⟨P10, e11, h⟩ := Option.bind_eq_some_iff.mp h
  refine k_wA e11 dX3_init_21 f_X3_18 (Or.inr ⟨by decide, rfl, rfl⟩) rfl ?_
  refine x_aload_nr dX3_init_24 rfl ?_
  refine x_iconst (-1) dX3_init_25 (by decide) ?_
  obtain ⟨P12, e13, h⟩ := Option.bind_eq_some_iff.mp h
  refine k_wI e13 dX3_init_26 f_X3_22 (Or.inl (by decide)) rfl ?_
  cases h
  exact x_ret rfl dX3_init_29 hQ
theorem s_X3_init {G : xG} {l : Launch} (hl : l.stackTraces = false) : ∀ n pc env P z, f_X3_init n pc env P = some z → ∀ L st, lay_X3_init pc env = some (L, st) → ∀ Q : xR → xH → Prop, Q z.1 z.2 → Wp G l 4 mX3_init pc L st P Q := by
  intro n
  induction n with
  | zero => intro pc env P z h; cases h
  | succ n ih =>
    intro pc env P z h L st hlay Q hQ
    unfold f_X3_init at h
    split at h
    · cases hlay
      exact t_X3_init_0 hl ih h hQ
    · cases h
theorem c_X3_init {G : xG} {l : Launch} (hl : l.stackTraces = false) {n : Nat} {as : List Value} {P : xH} {z : xR × xH} (h : f_X3_init n 0 as P = some z) : Ct G l 4 mX3_init as P (fun r P1 => (r, P1) = z) := by
  cases n with
  | zero => cases h
  | succ n =>
    unfold f_X3_init at h
    split at h
    · exact Ct.of hl (by decide +kernel) wc_X3_init (Nat.le_of_ble_eq_true rfl) (t_X3_init_0 hl (s_X3_init hl _) h rfl)
    all_goals first | (cases h; done) | (rename_i q9 _; exact absurd q9 (by decide)) | (rename_i q9; exact absurd q9 (by decide)) | contradiction
/-! QuakeNet$Sayings.<init>(LQuakeNet$Words;LQuakeNet$Net;)V -/
def b_X6_init_0 (n : Nat) (rec : Nat → List Value → xH → xO) (a0 : Nat) (a1 : Nat) (a2 : Nat) (P : xH) : xO :=
  (nI' P 30).bind fun P1 =>
  (wV P1 a0 6 2 (.ref P.1)).bind fun P3 =>
  (nI' P3 10).bind fun P5 =>
  (wV P5 a0 6 3 (.ref P3.1)).bind fun P7 =>
  (wV P7 a0 6 0 (.ref a1)).bind fun P9 =>
  (wV P9 a0 6 1 (.ref a2)).bind fun P11 =>
  some (.inl none, P11)
def lay_X6_init : Nat → List Value → Option (xL × List Value)
  | 0, [a0, a1, a2] => some ([some a0, some a1, some a2], [])
  | _, _ => none
def f_X6_init : Nat → Nat → List Value → xH → xO
  | 0 => fun _ _ _ => none
  | n + 1 => fun pc env P => match pc, env with
    | 0, [.ref a0, .ref a1, .ref a2] => b_X6_init_0 n (f_X6_init n) a0 a1 a2 P
    | _, _ => none
set_option maxHeartbeats 2000000 in
set_option maxRecDepth 20000 in
theorem t_X6_init_0 {G : xG} {l : Launch} (hl : l.stackTraces = false) {n : Nat} {rec : Nat → List Value → xH → xO} (hrec : ∀ pc env P z, rec pc env P = some z → ∀ L st, lay_X6_init pc env = some (L, st) → ∀ Q : xR → xH → Prop, Q z.1 z.2 → Wp G l 3 mX6_init pc L st P Q) {a0 a1 a2} {P : xH} {z : xR × xH} (h : b_X6_init_0 n rec a0 a1 a2 P = some z) {Q : xR → xH → Prop} (hQ : Q z.1 z.2) : Wp G l 3 mX6_init 0 [some (.ref a0), some (.ref a1), some (.ref a2)] [] P Q := by
  unfold b_X6_init_0 at h
  refine x_aload_nr dX6_init_0 rfl ?_
  refine x_objInit dX6_init_1 wl_X6_3 wi_objectInit wc_objectInit (Nat.le_of_ble_eq_true rfl) (by omega) ?_
  refine x_aload_nr dX6_init_4 rfl ?_
  refine x_bipush 30 dX6_init_5 (by decide) ?_
  obtain ⟨P1, e2, h⟩ := Option.bind_eq_some_iff.mp h
  refine k_nI e2 dX6_init_7 ?_
  obtain ⟨P3, e4, h⟩ := Option.bind_eq_some_iff.mp h
  refine k_wA e4 dX6_init_9 f_X6_9 (Or.inr ⟨by decide, rfl, rfl⟩) rfl ?_
  refine x_aload_nr dX6_init_12 rfl ?_
  refine x_bipush 10 dX6_init_13 (by decide) ?_
  obtain ⟨P5, e6, h⟩ := Option.bind_eq_some_iff.mp h
  refine k_nI e6 dX6_init_15 ?_
  obtain ⟨P7, e8, h⟩ := Option.bind_eq_some_iff.mp h
  refine k_wA e8 dX6_init_17 f_X6_15 (Or.inr ⟨by decide, rfl, rfl⟩) rfl ?_
  refine x_aload_nr dX6_init_20 rfl ?_
  refine x_aload_nr dX6_init_21 rfl ?_
  obtain ⟨P9, e10, h⟩ := Option.bind_eq_some_iff.mp h
  refine k_wA e10 dX6_init_22 f_X6_18 (Or.inr ⟨by decide, rfl, rfl⟩) rfl ?_
  refine x_aload_nr dX6_init_25 rfl ?_
  refine x_aload_nr dX6_init_26 rfl ?_
  obtain ⟨P11, e12, h⟩ := Option.bind_eq_some_iff.mp h
  refine k_wA e12 dX6_init_27 f_X6_22 (Or.inr ⟨by decide, rfl, rfl⟩) rfl ?_
  cases h
  exact x_ret rfl dX6_init_30 hQ
theorem s_X6_init {G : xG} {l : Launch} (hl : l.stackTraces = false) : ∀ n pc env P z, f_X6_init n pc env P = some z → ∀ L st, lay_X6_init pc env = some (L, st) → ∀ Q : xR → xH → Prop, Q z.1 z.2 → Wp G l 3 mX6_init pc L st P Q := by
  intro n
  induction n with
  | zero => intro pc env P z h; cases h
  | succ n ih =>
    intro pc env P z h L st hlay Q hQ
    unfold f_X6_init at h
    split at h
    · cases hlay
      exact t_X6_init_0 hl ih h hQ
    · cases h
theorem c_X6_init {G : xG} {l : Launch} (hl : l.stackTraces = false) {n : Nat} {as : List Value} {P : xH} {z : xR × xH} (h : f_X6_init n 0 as P = some z) : Ct G l 3 mX6_init as P (fun r P1 => (r, P1) = z) := by
  cases n with
  | zero => cases h
  | succ n =>
    unfold f_X6_init at h
    split at h
    · exact Ct.of hl (by decide +kernel) wc_X6_init (Nat.le_of_ble_eq_true rfl) (t_X6_init_0 hl (s_X6_init hl _) h rfl)
    all_goals first | (cases h; done) | (rename_i q9 _; exact absurd q9 (by decide)) | (rename_i q9; exact absurd q9 (by decide)) | contradiction
/-! QuakeNet$Help.<init>()V -/
def b_X0_init_0 (n : Nat) (rec : Nat → List Value → xH → xO) (a0 : Nat) (P : xH) : xO :=
  (nM' P 6 5).bind fun P1 =>
  (wV P1 a0 0 0 (.ref P.1)).bind fun P3 =>
  (nI' P3 4).bind fun P5 =>
  (wV P5 a0 0 1 (.ref P3.1)).bind fun P7 =>
  (nI' P7 4).bind fun P9 =>
  (wV P9 a0 0 2 (.ref P7.1)).bind fun P11 =>
  (nI' P11 4).bind fun P13 =>
  (wV P13 a0 0 3 (.ref P11.1)).bind fun P15 =>
  (nI' P15 4).bind fun P17 =>
  (wV P17 a0 0 4 (.ref P15.1)).bind fun P19 =>
  some (.inl none, P19)
def lay_X0_init : Nat → List Value → Option (xL × List Value)
  | 0, [a0] => some ([some a0], [])
  | _, _ => none
def f_X0_init : Nat → Nat → List Value → xH → xO
  | 0 => fun _ _ _ => none
  | n + 1 => fun pc env P => match pc, env with
    | 0, [.ref a0] => b_X0_init_0 n (f_X0_init n) a0 P
    | _, _ => none
set_option maxHeartbeats 2000000 in
set_option maxRecDepth 20000 in
theorem t_X0_init_0 {G : xG} {l : Launch} (hl : l.stackTraces = false) {n : Nat} {rec : Nat → List Value → xH → xO} (hrec : ∀ pc env P z, rec pc env P = some z → ∀ L st, lay_X0_init pc env = some (L, st) → ∀ Q : xR → xH → Prop, Q z.1 z.2 → Wp G l 3 mX0_init pc L st P Q) {a0} {P : xH} {z : xR × xH} (h : b_X0_init_0 n rec a0 P = some z) {Q : xR → xH → Prop} (hQ : Q z.1 z.2) : Wp G l 3 mX0_init 0 [some (.ref a0)] [] P Q := by
  unfold b_X0_init_0 at h
  refine x_aload_nr dX0_init_0 rfl ?_
  refine x_objInit dX0_init_1 wl_X0_3 wi_objectInit wc_objectInit (Nat.le_of_ble_eq_true rfl) (by omega) ?_
  refine x_aload_nr dX0_init_4 rfl ?_
  refine x_bipush 6 dX0_init_5 (by decide) ?_
  refine x_iconst 5 dX0_init_7 (by decide) ?_
  obtain ⟨P1, e2, h⟩ := Option.bind_eq_some_iff.mp h
  refine k_nM e2 dX0_init_8 wk_X0_11 ?_
  obtain ⟨P3, e4, h⟩ := Option.bind_eq_some_iff.mp h
  refine k_wA e4 dX0_init_12 f_X0_13 (Or.inr ⟨by decide, rfl, rfl⟩) rfl ?_
  refine x_aload_nr dX0_init_15 rfl ?_
  refine x_iconst 4 dX0_init_16 (by decide) ?_
  obtain ⟨P5, e6, h⟩ := Option.bind_eq_some_iff.mp h
  refine k_nI e6 dX0_init_17 ?_
  obtain ⟨P7, e8, h⟩ := Option.bind_eq_some_iff.mp h
  refine k_wA e8 dX0_init_19 f_X0_16 (Or.inr ⟨by decide, rfl, rfl⟩) rfl ?_
  refine x_aload_nr dX0_init_22 rfl ?_
  refine x_iconst 4 dX0_init_23 (by decide) ?_
  obtain ⟨P9, e10, h⟩ := Option.bind_eq_some_iff.mp h
  refine k_nI e10 dX0_init_24 ?_
  obtain ⟨P11, e12, h⟩ := Option.bind_eq_some_iff.mp h
  refine k_wA e12 dX0_init_26 f_X0_20 (Or.inr ⟨by decide, rfl, rfl⟩) rfl ?_
  refine x_aload_nr dX0_init_29 rfl ?_
  refine x_iconst 4 dX0_init_30 (by decide) ?_
  obtain ⟨P13, e14, h⟩ := Option.bind_eq_some_iff.mp h
  refine k_nI e14 dX0_init_31 ?_
  obtain ⟨P15, e16, h⟩ := Option.bind_eq_some_iff.mp h
  refine k_wA e16 dX0_init_33 f_X0_23 (Or.inr ⟨by decide, rfl, rfl⟩) rfl ?_
  refine x_aload_nr dX0_init_36 rfl ?_
  refine x_iconst 4 dX0_init_37 (by decide) ?_
  obtain ⟨P17, e18, h⟩ := Option.bind_eq_some_iff.mp h
  refine k_nI e18 dX0_init_38 ?_
  obtain ⟨P19, e20, h⟩ := Option.bind_eq_some_iff.mp h
  refine k_wA e20 dX0_init_40 f_X0_26 (Or.inr ⟨by decide, rfl, rfl⟩) rfl ?_
  cases h
  exact x_ret rfl dX0_init_43 hQ
theorem s_X0_init {G : xG} {l : Launch} (hl : l.stackTraces = false) : ∀ n pc env P z, f_X0_init n pc env P = some z → ∀ L st, lay_X0_init pc env = some (L, st) → ∀ Q : xR → xH → Prop, Q z.1 z.2 → Wp G l 3 mX0_init pc L st P Q := by
  intro n
  induction n with
  | zero => intro pc env P z h; cases h
  | succ n ih =>
    intro pc env P z h L st hlay Q hQ
    unfold f_X0_init at h
    split at h
    · cases hlay
      exact t_X0_init_0 hl ih h hQ
    · cases h
theorem c_X0_init {G : xG} {l : Launch} (hl : l.stackTraces = false) {n : Nat} {as : List Value} {P : xH} {z : xR × xH} (h : f_X0_init n 0 as P = some z) : Ct G l 3 mX0_init as P (fun r P1 => (r, P1) = z) := by
  cases n with
  | zero => cases h
  | succ n =>
    unfold f_X0_init at h
    split at h
    · exact Ct.of hl (by decide +kernel) wc_X0_init (Nat.le_of_ble_eq_true rfl) (t_X0_init_0 hl (s_X0_init hl _) h rfl)
    all_goals first | (cases h; done) | (rename_i q9 _; exact absurd q9 (by decide)) | (rename_i q9; exact absurd q9 (by decide)) | contradiction
/-! QuakeNet$Parting.<init>()V -/
def b_X2_init_0 (n : Nat) (rec : Nat → List Value → xH → xO) (a0 : Nat) (P : xH) : xO :=
  (nI' P 7).bind fun P1 =>
  (wV P1 a0 2 0 (.ref P.1)).bind fun P3 =>
  (nI' P3 7).bind fun P5 =>
  (wV P5 a0 2 1 (.ref P3.1)).bind fun P7 =>
  (nI' P7 7).bind fun P9 =>
  (wV P9 a0 2 2 (.ref P7.1)).bind fun P11 =>
  (nI' P11 7).bind fun P13 =>
  (wV P13 a0 2 3 (.ref P11.1)).bind fun P15 =>
  (nI' P15 7).bind fun P17 =>
  (wV P17 a0 2 4 (.ref P15.1)).bind fun P19 =>
  (wV P19 a0 2 6 (.int 10)).bind fun P21 =>
  some (.inl none, P21)
def lay_X2_init : Nat → List Value → Option (xL × List Value)
  | 0, [a0] => some ([some a0], [])
  | _, _ => none
def f_X2_init : Nat → Nat → List Value → xH → xO
  | 0 => fun _ _ _ => none
  | n + 1 => fun pc env P => match pc, env with
    | 0, [.ref a0] => b_X2_init_0 n (f_X2_init n) a0 P
    | _, _ => none
set_option maxHeartbeats 2000000 in
set_option maxRecDepth 20000 in
theorem t_X2_init_0 {G : xG} {l : Launch} (hl : l.stackTraces = false) {n : Nat} {rec : Nat → List Value → xH → xO} (hrec : ∀ pc env P z, rec pc env P = some z → ∀ L st, lay_X2_init pc env = some (L, st) → ∀ Q : xR → xH → Prop, Q z.1 z.2 → Wp G l 3 mX2_init pc L st P Q) {a0} {P : xH} {z : xR × xH} (h : b_X2_init_0 n rec a0 P = some z) {Q : xR → xH → Prop} (hQ : Q z.1 z.2) : Wp G l 3 mX2_init 0 [some (.ref a0)] [] P Q := by
  unfold b_X2_init_0 at h
  refine x_aload_nr dX2_init_0 rfl ?_
  refine x_objInit dX2_init_1 wl_X2_3 wi_objectInit wc_objectInit (Nat.le_of_ble_eq_true rfl) (by omega) ?_
  refine x_aload_nr dX2_init_4 rfl ?_
  refine x_bipush 7 dX2_init_5 (by decide) ?_
  obtain ⟨P1, e2, h⟩ := Option.bind_eq_some_iff.mp h
  refine k_nI e2 dX2_init_7 ?_
  obtain ⟨P3, e4, h⟩ := Option.bind_eq_some_iff.mp h
  refine k_wA e4 dX2_init_9 f_X2_11 (Or.inr ⟨by decide, rfl, rfl⟩) rfl ?_
  refine x_aload_nr dX2_init_12 rfl ?_
  refine x_bipush 7 dX2_init_13 (by decide) ?_
  obtain ⟨P5, e6, h⟩ := Option.bind_eq_some_iff.mp h
  refine k_nI e6 dX2_init_15 ?_
  obtain ⟨P7, e8, h⟩ := Option.bind_eq_some_iff.mp h
  refine k_wA e8 dX2_init_17 f_X2_15 (Or.inr ⟨by decide, rfl, rfl⟩) rfl ?_
  refine x_aload_nr dX2_init_20 rfl ?_
  refine x_bipush 7 dX2_init_21 (by decide) ?_
  obtain ⟨P9, e10, h⟩ := Option.bind_eq_some_iff.mp h
  refine k_nI e10 dX2_init_23 ?_
  obtain ⟨P11, e12, h⟩ := Option.bind_eq_some_iff.mp h
  refine k_wA e12 dX2_init_25 f_X2_18 (Or.inr ⟨by decide, rfl, rfl⟩) rfl ?_
  refine x_aload_nr dX2_init_28 rfl ?_
  refine x_bipush 7 dX2_init_29 (by decide) ?_
  obtain ⟨P13, e14, h⟩ := Option.bind_eq_some_iff.mp h
  refine k_nI e14 dX2_init_31 ?_
  obtain ⟨P15, e16, h⟩ := Option.bind_eq_some_iff.mp h
  refine k_wA e16 dX2_init_33 f_X2_21 (Or.inr ⟨by decide, rfl, rfl⟩) rfl ?_
  refine x_aload_nr dX2_init_36 rfl ?_
  refine x_bipush 7 dX2_init_37 (by decide) ?_
  obtain ⟨P17, e18, h⟩ := Option.bind_eq_some_iff.mp h
  refine k_nI e18 dX2_init_39 ?_
  obtain ⟨P19, e20, h⟩ := Option.bind_eq_some_iff.mp h
  refine k_wA e20 dX2_init_41 f_X2_24 (Or.inr ⟨by decide, rfl, rfl⟩) rfl ?_
  refine x_aload_nr dX2_init_44 rfl ?_
  refine x_bipush 10 dX2_init_45 (by decide) ?_
  obtain ⟨P21, e22, h⟩ := Option.bind_eq_some_iff.mp h
  refine k_wI e22 dX2_init_47 f_X2_27 (Or.inl (by decide)) rfl ?_
  cases h
  exact x_ret rfl dX2_init_50 hQ
theorem s_X2_init {G : xG} {l : Launch} (hl : l.stackTraces = false) : ∀ n pc env P z, f_X2_init n pc env P = some z → ∀ L st, lay_X2_init pc env = some (L, st) → ∀ Q : xR → xH → Prop, Q z.1 z.2 → Wp G l 3 mX2_init pc L st P Q := by
  intro n
  induction n with
  | zero => intro pc env P z h; cases h
  | succ n ih =>
    intro pc env P z h L st hlay Q hQ
    unfold f_X2_init at h
    split at h
    · cases hlay
      exact t_X2_init_0 hl ih h hQ
    · cases h
theorem c_X2_init {G : xG} {l : Launch} (hl : l.stackTraces = false) {n : Nat} {as : List Value} {P : xH} {z : xR × xH} (h : f_X2_init n 0 as P = some z) : Ct G l 3 mX2_init as P (fun r P1 => (r, P1) = z) := by
  cases n with
  | zero => cases h
  | succ n =>
    unfold f_X2_init at h
    split at h
    · exact Ct.of hl (by decide +kernel) wc_X2_init (Nat.le_of_ble_eq_true rfl) (t_X2_init_0 hl (s_X2_init hl _) h rfl)
    all_goals first | (cases h; done) | (rename_i q9 _; exact absurd q9 (by decide)) | (rename_i q9; exact absurd q9 (by decide)) | contradiction
/-! QuakeNet$Rows.<init>()V -/
def b_X4_init_0 (n : Nat) (rec : Nat → List Value → xH → xO) (a0 : Nat) (P : xH) : xO :=
  (nI' P 8).bind fun P1 =>
  (wV P1 a0 4 0 (.ref P.1)).bind fun P3 =>
  (nI' P3 8).bind fun P5 =>
  (wV P5 a0 4 1 (.ref P3.1)).bind fun P7 =>
  some (.inl none, P7)
def lay_X4_init : Nat → List Value → Option (xL × List Value)
  | 0, [a0] => some ([some a0], [])
  | _, _ => none
def f_X4_init : Nat → Nat → List Value → xH → xO
  | 0 => fun _ _ _ => none
  | n + 1 => fun pc env P => match pc, env with
    | 0, [.ref a0] => b_X4_init_0 n (f_X4_init n) a0 P
    | _, _ => none
set_option maxHeartbeats 2000000 in
set_option maxRecDepth 20000 in
theorem t_X4_init_0 {G : xG} {l : Launch} (hl : l.stackTraces = false) {n : Nat} {rec : Nat → List Value → xH → xO} (hrec : ∀ pc env P z, rec pc env P = some z → ∀ L st, lay_X4_init pc env = some (L, st) → ∀ Q : xR → xH → Prop, Q z.1 z.2 → Wp G l 3 mX4_init pc L st P Q) {a0} {P : xH} {z : xR × xH} (h : b_X4_init_0 n rec a0 P = some z) {Q : xR → xH → Prop} (hQ : Q z.1 z.2) : Wp G l 3 mX4_init 0 [some (.ref a0)] [] P Q := by
  unfold b_X4_init_0 at h
  refine x_aload_nr dX4_init_0 rfl ?_
  refine x_objInit dX4_init_1 wl_X4_3 wi_objectInit wc_objectInit (Nat.le_of_ble_eq_true rfl) (by omega) ?_
  refine x_aload_nr dX4_init_4 rfl ?_
  refine x_bipush 8 dX4_init_5 (by decide) ?_
  obtain ⟨P1, e2, h⟩ := Option.bind_eq_some_iff.mp h
  refine k_nI e2 dX4_init_7 ?_
  obtain ⟨P3, e4, h⟩ := Option.bind_eq_some_iff.mp h
  refine k_wA e4 dX4_init_9 f_X4_11 (Or.inr ⟨by decide, rfl, rfl⟩) rfl ?_
  refine x_aload_nr dX4_init_12 rfl ?_
  refine x_bipush 8 dX4_init_13 (by decide) ?_
  obtain ⟨P5, e6, h⟩ := Option.bind_eq_some_iff.mp h
  refine k_nI e6 dX4_init_15 ?_
  obtain ⟨P7, e8, h⟩ := Option.bind_eq_some_iff.mp h
  refine k_wA e8 dX4_init_17 f_X4_15 (Or.inr ⟨by decide, rfl, rfl⟩) rfl ?_
  cases h
  exact x_ret rfl dX4_init_20 hQ
theorem s_X4_init {G : xG} {l : Launch} (hl : l.stackTraces = false) : ∀ n pc env P z, f_X4_init n pc env P = some z → ∀ L st, lay_X4_init pc env = some (L, st) → ∀ Q : xR → xH → Prop, Q z.1 z.2 → Wp G l 3 mX4_init pc L st P Q := by
  intro n
  induction n with
  | zero => intro pc env P z h; cases h
  | succ n ih =>
    intro pc env P z h L st hlay Q hQ
    unfold f_X4_init at h
    split at h
    · cases hlay
      exact t_X4_init_0 hl ih h hQ
    · cases h
theorem c_X4_init {G : xG} {l : Launch} (hl : l.stackTraces = false) {n : Nat} {as : List Value} {P : xH} {z : xR × xH} (h : f_X4_init n 0 as P = some z) : Ct G l 3 mX4_init as P (fun r P1 => (r, P1) = z) := by
  cases n with
  | zero => cases h
  | succ n =>
    unfold f_X4_init at h
    split at h
    · exact Ct.of hl (by decide +kernel) wc_X4_init (Nat.le_of_ble_eq_true rfl) (t_X4_init_0 hl (s_X4_init hl _) h rfl)
    all_goals first | (cases h; done) | (rename_i q9 _; exact absurd q9 (by decide)) | (rename_i q9; exact absurd q9 (by decide)) | contradiction
/-! QuakeNet$Walks.<init>()V -/
def b_X8_init_0 (n : Nat) (rec : Nat → List Value → xH → xO) (a0 : Nat) (P : xH) : xO :=
  (nM' P 4 60).bind fun P1 =>
  (wV P1 a0 8 0 (.ref P.1)).bind fun P3 =>
  (nM' P3 4 60).bind fun P5 =>
  (wV P5 a0 8 1 (.ref P3.1)).bind fun P7 =>
  (nM' P7 4 60).bind fun P9 =>
  (wV P9 a0 8 2 (.ref P7.1)).bind fun P11 =>
  (nI' P11 4).bind fun P13 =>
  (wV P13 a0 8 3 (.ref P11.1)).bind fun P15 =>
  some (.inl none, P15)
def lay_X8_init : Nat → List Value → Option (xL × List Value)
  | 0, [a0] => some ([some a0], [])
  | _, _ => none
def f_X8_init : Nat → Nat → List Value → xH → xO
  | 0 => fun _ _ _ => none
  | n + 1 => fun pc env P => match pc, env with
    | 0, [.ref a0] => b_X8_init_0 n (f_X8_init n) a0 P
    | _, _ => none
set_option maxHeartbeats 2000000 in
set_option maxRecDepth 20000 in
theorem t_X8_init_0 {G : xG} {l : Launch} (hl : l.stackTraces = false) {n : Nat} {rec : Nat → List Value → xH → xO} (hrec : ∀ pc env P z, rec pc env P = some z → ∀ L st, lay_X8_init pc env = some (L, st) → ∀ Q : xR → xH → Prop, Q z.1 z.2 → Wp G l 3 mX8_init pc L st P Q) {a0} {P : xH} {z : xR × xH} (h : b_X8_init_0 n rec a0 P = some z) {Q : xR → xH → Prop} (hQ : Q z.1 z.2) : Wp G l 3 mX8_init 0 [some (.ref a0)] [] P Q := by
  unfold b_X8_init_0 at h
  refine x_aload_nr dX8_init_0 rfl ?_
  refine x_objInit dX8_init_1 wl_X8_3 wi_objectInit wc_objectInit (Nat.le_of_ble_eq_true rfl) (by omega) ?_
  refine x_aload_nr dX8_init_4 rfl ?_
  refine x_iconst 4 dX8_init_5 (by decide) ?_
  refine x_bipush 60 dX8_init_6 (by decide) ?_
  obtain ⟨P1, e2, h⟩ := Option.bind_eq_some_iff.mp h
  refine k_nM e2 dX8_init_8 wk_X8_11 ?_
  obtain ⟨P3, e4, h⟩ := Option.bind_eq_some_iff.mp h
  refine k_wA e4 dX8_init_12 f_X8_13 (Or.inr ⟨by decide, rfl, rfl⟩) rfl ?_
  refine x_aload_nr dX8_init_15 rfl ?_
  refine x_iconst 4 dX8_init_16 (by decide) ?_
  refine x_bipush 60 dX8_init_17 (by decide) ?_
  obtain ⟨P5, e6, h⟩ := Option.bind_eq_some_iff.mp h
  refine k_nM e6 dX8_init_19 wk_X8_11 ?_
  obtain ⟨P7, e8, h⟩ := Option.bind_eq_some_iff.mp h
  refine k_wA e8 dX8_init_23 f_X8_16 (Or.inr ⟨by decide, rfl, rfl⟩) rfl ?_
  refine x_aload_nr dX8_init_26 rfl ?_
  refine x_iconst 4 dX8_init_27 (by decide) ?_
  refine x_bipush 60 dX8_init_28 (by decide) ?_
  obtain ⟨P9, e10, h⟩ := Option.bind_eq_some_iff.mp h
  refine k_nM e10 dX8_init_30 wk_X8_11 ?_
  obtain ⟨P11, e12, h⟩ := Option.bind_eq_some_iff.mp h
  refine k_wA e12 dX8_init_34 f_X8_19 (Or.inr ⟨by decide, rfl, rfl⟩) rfl ?_
  refine x_aload_nr dX8_init_37 rfl ?_
  refine x_iconst 4 dX8_init_38 (by decide) ?_
  obtain ⟨P13, e14, h⟩ := Option.bind_eq_some_iff.mp h
  refine k_nI e14 dX8_init_39 ?_
  obtain ⟨P15, e16, h⟩ := Option.bind_eq_some_iff.mp h
  refine k_wA e16 dX8_init_41 f_X8_22 (Or.inr ⟨by decide, rfl, rfl⟩) rfl ?_
  cases h
  exact x_ret rfl dX8_init_44 hQ
theorem s_X8_init {G : xG} {l : Launch} (hl : l.stackTraces = false) : ∀ n pc env P z, f_X8_init n pc env P = some z → ∀ L st, lay_X8_init pc env = some (L, st) → ∀ Q : xR → xH → Prop, Q z.1 z.2 → Wp G l 3 mX8_init pc L st P Q := by
  intro n
  induction n with
  | zero => intro pc env P z h; cases h
  | succ n ih =>
    intro pc env P z h L st hlay Q hQ
    unfold f_X8_init at h
    split at h
    · cases hlay
      exact t_X8_init_0 hl ih h hQ
    · cases h
theorem c_X8_init {G : xG} {l : Launch} (hl : l.stackTraces = false) {n : Nat} {as : List Value} {P : xH} {z : xR × xH} (h : f_X8_init n 0 as P = some z) : Ct G l 3 mX8_init as P (fun r P1 => (r, P1) = z) := by
  cases n with
  | zero => cases h
  | succ n =>
    unfold f_X8_init at h
    split at h
    · exact Ct.of hl (by decide +kernel) wc_X8_init (Nat.le_of_ble_eq_true rfl) (t_X8_init_0 hl (s_X8_init hl _) h rfl)
    all_goals first | (cases h; done) | (rename_i q9 _; exact absurd q9 (by decide)) | (rename_i q9; exact absurd q9 (by decide)) | contradiction
/-! QuakeNet$Words.<init>()V -/
def b_X9_init_0 (n : Nat) (rec : Nat → List Value → xH → xO) (a0 : Nat) (P : xH) : xO :=
  (nM' P 9 30).bind fun P1 =>
  (wV P1 a0 9 0 (.ref P.1)).bind fun P3 =>
  (nI' P3 30).bind fun P5 =>
  (wV P5 a0 9 1 (.ref P3.1)).bind fun P7 =>
  (nI' P7 30).bind fun P9 =>
  (wV P9 a0 9 2 (.ref P7.1)).bind fun P11 =>
  some (.inl none, P11)
def lay_X9_init : Nat → List Value → Option (xL × List Value)
  | 0, [a0] => some ([some a0], [])
  | _, _ => none
def f_X9_init : Nat → Nat → List Value → xH → xO
  | 0 => fun _ _ _ => none
  | n + 1 => fun pc env P => match pc, env with
    | 0, [.ref a0] => b_X9_init_0 n (f_X9_init n) a0 P
    | _, _ => none
set_option maxHeartbeats 2000000 in
set_option maxRecDepth 20000 in
theorem t_X9_init_0 {G : xG} {l : Launch} (hl : l.stackTraces = false) {n : Nat} {rec : Nat → List Value → xH → xO} (hrec : ∀ pc env P z, rec pc env P = some z → ∀ L st, lay_X9_init pc env = some (L, st) → ∀ Q : xR → xH → Prop, Q z.1 z.2 → Wp G l 3 mX9_init pc L st P Q) {a0} {P : xH} {z : xR × xH} (h : b_X9_init_0 n rec a0 P = some z) {Q : xR → xH → Prop} (hQ : Q z.1 z.2) : Wp G l 3 mX9_init 0 [some (.ref a0)] [] P Q := by
  unfold b_X9_init_0 at h
  refine x_aload_nr dX9_init_0 rfl ?_
  refine x_objInit dX9_init_1 wl_X9_3 wi_objectInit wc_objectInit (Nat.le_of_ble_eq_true rfl) (by omega) ?_
  refine x_aload_nr dX9_init_4 rfl ?_
  refine x_bipush 9 dX9_init_5 (by decide) ?_
  refine x_bipush 30 dX9_init_7 (by decide) ?_
  obtain ⟨P1, e2, h⟩ := Option.bind_eq_some_iff.mp h
  refine k_nM e2 dX9_init_9 wk_X9_11 ?_
  obtain ⟨P3, e4, h⟩ := Option.bind_eq_some_iff.mp h
  refine k_wA e4 dX9_init_13 f_X9_13 (Or.inr ⟨by decide, rfl, rfl⟩) rfl ?_
  refine x_aload_nr dX9_init_16 rfl ?_
  refine x_bipush 30 dX9_init_17 (by decide) ?_
  obtain ⟨P5, e6, h⟩ := Option.bind_eq_some_iff.mp h
  refine k_nI e6 dX9_init_19 ?_
  obtain ⟨P7, e8, h⟩ := Option.bind_eq_some_iff.mp h
  refine k_wA e8 dX9_init_21 f_X9_16 (Or.inr ⟨by decide, rfl, rfl⟩) rfl ?_
  refine x_aload_nr dX9_init_24 rfl ?_
  refine x_bipush 30 dX9_init_25 (by decide) ?_
  obtain ⟨P9, e10, h⟩ := Option.bind_eq_some_iff.mp h
  refine k_nI e10 dX9_init_27 ?_
  obtain ⟨P11, e12, h⟩ := Option.bind_eq_some_iff.mp h
  refine k_wA e12 dX9_init_29 f_X9_20 (Or.inr ⟨by decide, rfl, rfl⟩) rfl ?_
  cases h
  exact x_ret rfl dX9_init_32 hQ
theorem s_X9_init {G : xG} {l : Launch} (hl : l.stackTraces = false) : ∀ n pc env P z, f_X9_init n pc env P = some z → ∀ L st, lay_X9_init pc env = some (L, st) → ∀ Q : xR → xH → Prop, Q z.1 z.2 → Wp G l 3 mX9_init pc L st P Q := by
  intro n
  induction n with
  | zero => intro pc env P z h; cases h
  | succ n ih =>
    intro pc env P z h L st hlay Q hQ
    unfold f_X9_init at h
    split at h
    · cases hlay
      exact t_X9_init_0 hl ih h hQ
    · cases h
theorem c_X9_init {G : xG} {l : Launch} (hl : l.stackTraces = false) {n : Nat} {as : List Value} {P : xH} {z : xR × xH} (h : f_X9_init n 0 as P = some z) : Ct G l 3 mX9_init as P (fun r P1 => (r, P1) = z) := by
  cases n with
  | zero => cases h
  | succ n =>
    unfold f_X9_init at h
    split at h
    · exact Ct.of hl (by decide +kernel) wc_X9_init (Nat.le_of_ble_eq_true rfl) (t_X9_init_0 hl (s_X9_init hl _) h rfl)
    all_goals first | (cases h; done) | (rename_i q9 _; exact absurd q9 (by decide)) | (rename_i q9; exact absurd q9 (by decide)) | contradiction
/-! QuakeNet$Town.<init>()V -/
def b_X7_init_0 (n : Nat) (rec : Nat → List Value → xH → xO) (a0 : Nat) (P : xH) : xO :=
  (nO P 5).bind fun P1 =>
  (f_X5_init n 0 [.ref P.1] P1).bind fun r4 => xU r4 fun P3 =>
  (wV P3 a0 7 0 (.ref P.1)).bind fun P6 =>
  (nO P6 9).bind fun P8 =>
  (f_X9_init n 0 [.ref P6.1] P8).bind fun r11 => xU r11 fun P10 =>
  (wV P10 a0 7 1 (.ref P6.1)).bind fun P13 =>
  (nO P13 8).bind fun P15 =>
  (f_X8_init n 0 [.ref P13.1] P15).bind fun r18 => xU r18 fun P17 =>
  (wV P17 a0 7 2 (.ref P13.1)).bind fun P20 =>
  (nO P20 1).bind fun P22 =>
  (rA P22 a0 7 1).bind fun v24 =>
  (rA P22 a0 7 0).bind fun v26 =>
  (f_X1_init n 0 [.ref P20.1, .ref v24, .ref v26] P22).bind fun r29 => xU r29 fun P28 =>
  (wV P28 a0 7 3 (.ref P20.1)).bind fun P31 =>
  (nO P31 1).bind fun P33 =>
  (rA P33 a0 7 1).bind fun v35 =>
  (rA P33 a0 7 0).bind fun v37 =>
  (f_X1_init n 0 [.ref P31.1, .ref v35, .ref v37] P33).bind fun r40 => xU r40 fun P39 =>
  (wV P39 a0 7 4 (.ref P31.1)).bind fun P42 =>
  (nO P42 4).bind fun P44 =>
  (f_X4_init n 0 [.ref P42.1] P44).bind fun r47 => xU r47 fun P46 =>
  (wV P46 a0 7 5 (.ref P42.1)).bind fun P49 =>
  (nO P49 2).bind fun P51 =>
  (f_X2_init n 0 [.ref P49.1] P51).bind fun r54 => xU r54 fun P53 =>
  (wV P53 a0 7 6 (.ref P49.1)).bind fun P56 =>
  (nO P56 0).bind fun P58 =>
  (f_X0_init n 0 [.ref P56.1] P58).bind fun r61 => xU r61 fun P60 =>
  (wV P60 a0 7 7 (.ref P56.1)).bind fun P63 =>
  (wV P63 a0 7 8 (.int 1)).bind fun P65 =>
  some (.inl none, P65)
def lay_X7_init : Nat → List Value → Option (xL × List Value)
  | 0, [a0] => some ([some a0], [])
  | _, _ => none
def f_X7_init : Nat → Nat → List Value → xH → xO
  | 0 => fun _ _ _ => none
  | n + 1 => fun pc env P => match pc, env with
    | 0, [.ref a0] => b_X7_init_0 n (f_X7_init n) a0 P
    | _, _ => none
set_option maxHeartbeats 2000000 in
set_option maxRecDepth 20000 in
theorem t_X7_init_0 {G : xG} {l : Launch} (hl : l.stackTraces = false) {n : Nat} {rec : Nat → List Value → xH → xO} (hrec : ∀ pc env P z, rec pc env P = some z → ∀ L st, lay_X7_init pc env = some (L, st) → ∀ Q : xR → xH → Prop, Q z.1 z.2 → Wp G l 5 mX7_init pc L st P Q) {a0} {P : xH} {z : xR × xH} (h : b_X7_init_0 n rec a0 P = some z) {Q : xR → xH → Prop} (hQ : Q z.1 z.2) : Wp G l 5 mX7_init 0 [some (.ref a0)] [] P Q := by
  unfold b_X7_init_0 at h
  refine x_aload_nr dX7_init_0 rfl ?_
  refine x_objInit dX7_init_1 wl_X7_1 wi_objectInit wc_objectInit (Nat.le_of_ble_eq_true rfl) (by omega) ?_
  refine x_aload_nr dX7_init_4 rfl ?_
  obtain ⟨P1, e2, h⟩ := Option.bind_eq_some_iff.mp h
  refine k_nO e2 (by decide) dX7_init_5 wk_X7_7 wins_X5 wini_X5 xok_5 ?_
  refine x_dup dX7_init_8 rfl ?_
  obtain ⟨r4, e5, h⟩ := Option.bind_eq_some_iff.mp h
  replace h := xU_ok h
  obtain ⟨P3, rfl, h⟩ := h
  refine x_callIN (c_X5_init hl e5) dX7_init_9 cw_X5_init rfl rfl wn_X7_9 wi_X5_init rfl (by omega) (by decide) rfl (Nat.le_of_ble_eq_true rfl) (fun i9 P9 hq9 => by cases hq9) (fun v9 P9 hq9 => ?_)
  cases hq9
  obtain ⟨P6, e7, h⟩ := Option.bind_eq_some_iff.mp h
  refine k_wA e7 dX7_init_12 f_X7_10 (Or.inr ⟨by decide, rfl, rfl⟩) rfl ?_
  refine x_aload_nr dX7_init_15 rfl ?_
  obtain ⟨P8, e9, h⟩ := Option.bind_eq_some_iff.mp h
  refine k_nO e9 (by decide) dX7_init_16 wk_X7_16 wins_X9 wini_X9 xok_9 ?_
  refine x_dup dX7_init_19 rfl ?_
  obtain ⟨r11, e12, h⟩ := Option.bind_eq_some_iff.mp h
  replace h := xU_ok h
  obtain ⟨P10, rfl, h⟩ := h
  refine x_callIN (c_X9_init hl e12) dX7_init_20 cw_X9_init rfl rfl wn_X7_18 wi_X9_init rfl (by omega) (by decide) rfl (Nat.le_of_ble_eq_true rfl) (fun i9 P9 hq9 => by cases hq9) (fun v9 P9 hq9 => ?_)
  cases hq9
  obtain ⟨P13, e14, h⟩ := Option.bind_eq_some_iff.mp h
  refine k_wA e14 dX7_init_23 f_X7_19 (Or.inr ⟨by decide, rfl, rfl⟩) rfl ?_
  refine x_aload_nr dX7_init_26 rfl ?_
  obtain ⟨P15, e16, h⟩ := Option.bind_eq_some_iff.mp h
  refine k_nO e16 (by decide) dX7_init_27 wk_X7_23 wins_X8 wini_X8 xok_8 ?_
  refine x_dup dX7_init_30 rfl ?_
  obtain ⟨r18, e19, h⟩ := Option.bind_eq_some_iff.mp h
  replace h := xU_ok h
  obtain ⟨P17, rfl, h⟩ := h
  refine x_callIN (c_X8_init hl e19) dX7_init_31 cw_X8_init rfl rfl wn_X7_25 wi_X8_init rfl (by omega) (by decide) rfl (Nat.le_of_ble_eq_true rfl) (fun i9 P9 hq9 => by cases hq9) (fun v9 P9 hq9 => ?_)
  cases hq9
  obtain ⟨P20, e21, h⟩ := Option.bind_eq_some_iff.mp h
  refine k_wA e21 dX7_init_34 f_X7_26 (Or.inr ⟨by decide, rfl, rfl⟩) rfl ?_
  refine x_aload_nr dX7_init_37 rfl ?_
  obtain ⟨P22, e23, h⟩ := Option.bind_eq_some_iff.mp h
  refine k_nO e23 (by decide) dX7_init_38 wk_X7_30 wins_X1 wini_X1 xok_1 ?_
  refine x_dup dX7_init_41 rfl ?_
  refine x_aload_nr dX7_init_42 rfl ?_
  obtain ⟨v24, e25, h⟩ := Option.bind_eq_some_iff.mp h
  refine k_rA e25 dX7_init_43 f_X7_19 ?_
  refine x_aload_nr dX7_init_46 rfl ?_
  obtain ⟨v26, e27, h⟩ := Option.bind_eq_some_iff.mp h
  refine k_rA e27 dX7_init_47 f_X7_10 ?_
  obtain ⟨r29, e30, h⟩ := Option.bind_eq_some_iff.mp h
  replace h := xU_ok h
  obtain ⟨P28, rfl, h⟩ := h
  refine x_callI (c_X1_init hl e30) dX7_init_50 cw_X1_init rfl rfl wl_X7_32 wi_X1_init rfl (by omega) (by decide) rfl (Nat.le_of_ble_eq_true rfl) (fun i9 P9 hq9 => by cases hq9) (fun v9 P9 hq9 => ?_)
  cases hq9
  obtain ⟨P31, e32, h⟩ := Option.bind_eq_some_iff.mp h
  refine k_wA e32 dX7_init_53 f_X7_35 (Or.inr ⟨by decide, rfl, rfl⟩) rfl ?_
  refine x_aload_nr dX7_init_56 rfl ?_
  obtain ⟨P33, e34, h⟩ := Option.bind_eq_some_iff.mp h
  refine k_nO e34 (by decide) dX7_init_57 wk_X7_30 wins_X1 wini_X1 xok_1 ?_
  refine x_dup dX7_init_60 rfl ?_
  refine x_aload_nr dX7_init_61 rfl ?_
  obtain ⟨v35, e36, h⟩ := Option.bind_eq_some_iff.mp h
  refine k_rA e36 dX7_init_62 f_X7_19 ?_
  refine x_aload_nr dX7_init_65 rfl ?_
  obtain ⟨v37, e38, h⟩ := Option.bind_eq_some_iff.mp h
  refine k_rA e38 dX7_init_66 f_X7_10 ?_
  obtain ⟨r40, e41, h⟩ := Option.bind_eq_some_iff.mp h
  replace h := xU_ok h
  obtain ⟨P39, rfl, h⟩ := h
  refine x_callI (c_X1_init hl e41) dX7_init_69 cw_X1_init rfl rfl wl_X7_32 wi_X1_init rfl (by omega) (by decide) rfl (Nat.le_of_ble_eq_true rfl) (fun i9 P9 hq9 => by cases hq9) (fun v9 P9 hq9 => ?_)
  cases hq9
  obtain ⟨P42, e43, h⟩ := Option.bind_eq_some_iff.mp h
  refine k_wA e43 dX7_init_72 f_X7_39 (Or.inr ⟨by decide, rfl, rfl⟩) rfl ?_
  refine x_aload_nr dX7_init_75 rfl ?_
  obtain ⟨P44, e45, h⟩ := Option.bind_eq_some_iff.mp h
  refine k_nO e45 (by decide) dX7_init_76 wk_X7_42 wins_X4 wini_X4 xok_4 ?_
  refine x_dup dX7_init_79 rfl ?_
  obtain ⟨r47, e48, h⟩ := Option.bind_eq_some_iff.mp h
  replace h := xU_ok h
  obtain ⟨P46, rfl, h⟩ := h
  refine x_callIN (c_X4_init hl e48) dX7_init_80 cw_X4_init rfl rfl wn_X7_44 wi_X4_init rfl (by omega) (by decide) rfl (Nat.le_of_ble_eq_true rfl) (fun i9 P9 hq9 => by cases hq9) (fun v9 P9 hq9 => ?_)
  cases hq9
  obtain ⟨P49, e50, h⟩ := Option.bind_eq_some_iff.mp h
  refine k_wA e50 dX7_init_83 f_X7_45 (Or.inr ⟨by decide, rfl, rfl⟩) rfl ?_
  refine x_aload_nr dX7_init_86 rfl ?_
  obtain ⟨P51, e52, h⟩ := Option.bind_eq_some_iff.mp h
  refine k_nO e52 (by decide) dX7_init_87 wk_X7_49 wins_X2 wini_X2 xok_2 ?_
  refine x_dup dX7_init_90 rfl ?_
  obtain ⟨r54, e55, h⟩ := Option.bind_eq_some_iff.mp h
  replace h := xU_ok h
  obtain ⟨P53, rfl, h⟩ := h
  refine x_callIN (c_X2_init hl e55) dX7_init_91 cw_X2_init rfl rfl wn_X7_51 wi_X2_init rfl (by omega) (by decide) rfl (Nat.le_of_ble_eq_true rfl) (fun i9 P9 hq9 => by cases hq9) (fun v9 P9 hq9 => ?_)
  cases hq9
  obtain ⟨P56, e57, h⟩ := Option.bind_eq_some_iff.mp h
  refine k_wA e57 dX7_init_94 f_X7_52 (Or.inr ⟨by decide, rfl, rfl⟩) rfl ?_
  refine x_aload_nr dX7_init_97 rfl ?_
  obtain ⟨P58, e59, h⟩ := Option.bind_eq_some_iff.mp h
  refine k_nO e59 (by decide) dX7_init_98 wk_X7_56 wins_X0 wini_X0 xok_0 ?_
  refine x_dup dX7_init_101 rfl ?_
  obtain ⟨r61, e62, h⟩ := Option.bind_eq_some_iff.mp h
  replace h := xU_ok h
  obtain ⟨P60, rfl, h⟩ := h
  refine x_callIN (c_X0_init hl e62) dX7_init_102 cw_X0_init rfl rfl wn_X7_58 wi_X0_init rfl (by omega) (by decide) rfl (Nat.le_of_ble_eq_true rfl) (fun i9 P9 hq9 => by cases hq9) (fun v9 P9 hq9 => ?_)
  cases hq9
  obtain ⟨P63, e64, h⟩ := Option.bind_eq_some_iff.mp h
  refine k_wA e64 dX7_init_105 f_X7_59 (Or.inr ⟨by decide, rfl, rfl⟩) rfl ?_
  refine x_aload_nr dX7_init_108 rfl ?_
  refine x_iconst 1 dX7_init_109 (by decide) ?_
  obtain ⟨P65, e66, h⟩ := Option.bind_eq_some_iff.mp h
  refine k_wI e66 dX7_init_110 f_X7_63 (Or.inl (by decide)) rfl ?_
  cases h
  exact x_ret rfl dX7_init_113 hQ
theorem s_X7_init {G : xG} {l : Launch} (hl : l.stackTraces = false) : ∀ n pc env P z, f_X7_init n pc env P = some z → ∀ L st, lay_X7_init pc env = some (L, st) → ∀ Q : xR → xH → Prop, Q z.1 z.2 → Wp G l 5 mX7_init pc L st P Q := by
  intro n
  induction n with
  | zero => intro pc env P z h; cases h
  | succ n ih =>
    intro pc env P z h L st hlay Q hQ
    unfold f_X7_init at h
    split at h
    · cases hlay
      exact t_X7_init_0 hl ih h hQ
    · cases h
theorem c_X7_init {G : xG} {l : Launch} (hl : l.stackTraces = false) {n : Nat} {as : List Value} {P : xH} {z : xR × xH} (h : f_X7_init n 0 as P = some z) : Ct G l 5 mX7_init as P (fun r P1 => (r, P1) = z) := by
  cases n with
  | zero => cases h
  | succ n =>
    unfold f_X7_init at h
    split at h
    · exact Ct.of hl (by decide +kernel) wc_X7_init (Nat.le_of_ble_eq_true rfl) (t_X7_init_0 hl (s_X7_init hl _) h rfl)
    all_goals first | (cases h; done) | (rename_i q9 _; exact absurd q9 (by decide)) | (rename_i q9; exact absurd q9 (by decide)) | contradiction
/-! QuakeNet.<init>()V -/
def b_X10_init_0 (n : Nat) (rec : Nat → List Value → xH → xO) (a0 : Nat) (P : xH) : xO :=
  (nO P 3).bind fun P1 =>
  (f_X3_init n 0 [.ref P.1] P1).bind fun r4 => xU r4 fun P3 =>
  (wV P3 a0 10 0 (.ref P.1)).bind fun P6 =>
  (nO P6 7).bind fun P8 =>
  (f_X7_init n 0 [.ref P6.1] P8).bind fun r11 => xU r11 fun P10 =>
  (wV P10 a0 10 1 (.ref P6.1)).bind fun P13 =>
  (nO P13 1).bind fun P15 =>
  (rA P15 a0 10 1).bind fun v17 =>
  (rA P15 v17 7 1).bind fun v19 =>
  (rA P15 a0 10 1).bind fun v21 =>
  (rA P15 v21 7 0).bind fun v23 =>
  (f_X1_init n 0 [.ref P13.1, .ref v19, .ref v23] P15).bind fun r26 => xU r26 fun P25 =>
  (wV P25 a0 10 2 (.ref P13.1)).bind fun P28 =>
  (nO P28 6).bind fun P30 =>
  (rA P30 a0 10 1).bind fun v32 =>
  (rA P30 v32 7 1).bind fun v34 =>
  (rA P30 a0 10 1).bind fun v36 =>
  (rA P30 v36 7 3).bind fun v38 =>
  (f_X6_init n 0 [.ref P28.1, .ref v34, .ref v38] P30).bind fun r41 => xU r41 fun P40 =>
  (wV P40 a0 10 3 (.ref P28.1)).bind fun P43 =>
  some (.inl none, P43)
def lay_X10_init : Nat → List Value → Option (xL × List Value)
  | 0, [a0] => some ([some a0], [])
  | _, _ => none
def f_X10_init : Nat → Nat → List Value → xH → xO
  | 0 => fun _ _ _ => none
  | n + 1 => fun pc env P => match pc, env with
    | 0, [.ref a0] => b_X10_init_0 n (f_X10_init n) a0 P
    | _, _ => none
set_option maxHeartbeats 2000000 in
set_option maxRecDepth 20000 in
theorem t_X10_init_0 {G : xG} {l : Launch} (hl : l.stackTraces = false) {n : Nat} {rec : Nat → List Value → xH → xO} (hrec : ∀ pc env P z, rec pc env P = some z → ∀ L st, lay_X10_init pc env = some (L, st) → ∀ Q : xR → xH → Prop, Q z.1 z.2 → Wp G l 6 mX10_init pc L st P Q) {a0} {P : xH} {z : xR × xH} (h : b_X10_init_0 n rec a0 P = some z) {Q : xR → xH → Prop} (hQ : Q z.1 z.2) : Wp G l 6 mX10_init 0 [some (.ref a0)] [] P Q := by
  unfold b_X10_init_0 at h
  refine x_aload_nr dX10_init_0 rfl ?_
  refine x_objInit dX10_init_1 wl_X10_1 wi_objectInit wc_objectInit (Nat.le_of_ble_eq_true rfl) (by omega) ?_
  refine x_aload_nr dX10_init_4 rfl ?_
  obtain ⟨P1, e2, h⟩ := Option.bind_eq_some_iff.mp h
  refine k_nO e2 (by decide) dX10_init_5 wk_X10_7 wins_X3 wini_X3 xok_3 ?_
  refine x_dup dX10_init_8 rfl ?_
  obtain ⟨r4, e5, h⟩ := Option.bind_eq_some_iff.mp h
  replace h := xU_ok h
  obtain ⟨P3, rfl, h⟩ := h
  refine x_callIN (c_X3_init hl e5) dX10_init_9 cw_X3_init rfl rfl wn_X10_9 wi_X3_init rfl (by omega) (by decide) rfl (Nat.le_of_ble_eq_true rfl) (fun i9 P9 hq9 => by cases hq9) (fun v9 P9 hq9 => ?_)
  cases hq9
  obtain ⟨P6, e7, h⟩ := Option.bind_eq_some_iff.mp h
  refine k_wA e7 dX10_init_12 f_X10_10 (Or.inr ⟨by decide, rfl, rfl⟩) rfl ?_
  refine x_aload_nr dX10_init_15 rfl ?_
  obtain ⟨P8, e9, h⟩ := Option.bind_eq_some_iff.mp h
  refine k_nO e9 (by decide) dX10_init_16 wk_X10_16 wins_X7 wini_X7 xok_7 ?_
  refine x_dup dX10_init_19 rfl ?_
  obtain ⟨r11, e12, h⟩ := Option.bind_eq_some_iff.mp h
  replace h := xU_ok h
  obtain ⟨P10, rfl, h⟩ := h
  refine x_callIN (c_X7_init hl e12) dX10_init_20 cw_X7_init rfl rfl wn_X10_18 wi_X7_init rfl (by omega) (by decide) rfl (Nat.le_of_ble_eq_true rfl) (fun i9 P9 hq9 => by cases hq9) (fun v9 P9 hq9 => ?_)
  cases hq9
  obtain ⟨P13, e14, h⟩ := Option.bind_eq_some_iff.mp h
  refine k_wA e14 dX10_init_23 f_X10_19 (Or.inr ⟨by decide, rfl, rfl⟩) rfl ?_
  refine x_aload_nr dX10_init_26 rfl ?_
  obtain ⟨P15, e16, h⟩ := Option.bind_eq_some_iff.mp h
  refine k_nO e16 (by decide) dX10_init_27 wk_X10_23 wins_X1 wini_X1 xok_1 ?_
  refine x_dup dX10_init_30 rfl ?_
  refine x_aload_nr dX10_init_31 rfl ?_
  obtain ⟨v17, e18, h⟩ := Option.bind_eq_some_iff.mp h
  refine k_rA e18 dX10_init_32 f_X10_19 ?_
  obtain ⟨v19, e20, h⟩ := Option.bind_eq_some_iff.mp h
  refine k_rA e20 dX10_init_35 f_X10_25 ?_
  refine x_aload_nr dX10_init_38 rfl ?_
  obtain ⟨v21, e22, h⟩ := Option.bind_eq_some_iff.mp h
  refine k_rA e22 dX10_init_39 f_X10_19 ?_
  obtain ⟨v23, e24, h⟩ := Option.bind_eq_some_iff.mp h
  refine k_rA e24 dX10_init_42 f_X10_29 ?_
  obtain ⟨r26, e27, h⟩ := Option.bind_eq_some_iff.mp h
  replace h := xU_ok h
  obtain ⟨P25, rfl, h⟩ := h
  refine x_callI (c_X1_init hl e27) dX10_init_45 cw_X1_init rfl rfl wl_X10_33 wi_X1_init rfl (by omega) (by decide) rfl (Nat.le_of_ble_eq_true rfl) (fun i9 P9 hq9 => by cases hq9) (fun v9 P9 hq9 => ?_)
  cases hq9
  obtain ⟨P28, e29, h⟩ := Option.bind_eq_some_iff.mp h
  refine k_wA e29 dX10_init_48 f_X10_36 (Or.inr ⟨by decide, rfl, rfl⟩) rfl ?_
  refine x_aload_nr dX10_init_51 rfl ?_
  obtain ⟨P30, e31, h⟩ := Option.bind_eq_some_iff.mp h
  refine k_nO e31 (by decide) dX10_init_52 wk_X10_40 wins_X6 wini_X6 xok_6 ?_
  refine x_dup dX10_init_55 rfl ?_
  refine x_aload_nr dX10_init_56 rfl ?_
  obtain ⟨v32, e33, h⟩ := Option.bind_eq_some_iff.mp h
  refine k_rA e33 dX10_init_57 f_X10_19 ?_
  obtain ⟨v34, e35, h⟩ := Option.bind_eq_some_iff.mp h
  refine k_rA e35 dX10_init_60 f_X10_25 ?_
  refine x_aload_nr dX10_init_63 rfl ?_
  obtain ⟨v36, e37, h⟩ := Option.bind_eq_some_iff.mp h
  refine k_rA e37 dX10_init_64 f_X10_19 ?_
  obtain ⟨v38, e39, h⟩ := Option.bind_eq_some_iff.mp h
  refine k_rA e39 dX10_init_67 f_X10_42 ?_
  obtain ⟨r41, e42, h⟩ := Option.bind_eq_some_iff.mp h
  replace h := xU_ok h
  obtain ⟨P40, rfl, h⟩ := h
  refine x_callI (c_X6_init hl e42) dX10_init_70 cw_X6_init rfl rfl wl_X10_45 wi_X6_init rfl (by omega) (by decide) rfl (Nat.le_of_ble_eq_true rfl) (fun i9 P9 hq9 => by cases hq9) (fun v9 P9 hq9 => ?_)
  cases hq9
  obtain ⟨P43, e44, h⟩ := Option.bind_eq_some_iff.mp h
  refine k_wA e44 dX10_init_73 f_X10_48 (Or.inr ⟨by decide, rfl, rfl⟩) rfl ?_
  cases h
  exact x_ret rfl dX10_init_76 hQ
theorem s_X10_init {G : xG} {l : Launch} (hl : l.stackTraces = false) : ∀ n pc env P z, f_X10_init n pc env P = some z → ∀ L st, lay_X10_init pc env = some (L, st) → ∀ Q : xR → xH → Prop, Q z.1 z.2 → Wp G l 6 mX10_init pc L st P Q := by
  intro n
  induction n with
  | zero => intro pc env P z h; cases h
  | succ n ih =>
    intro pc env P z h L st hlay Q hQ
    unfold f_X10_init at h
    split at h
    · cases hlay
      exact t_X10_init_0 hl ih h hQ
    · cases h
theorem c_X10_init {G : xG} {l : Launch} (hl : l.stackTraces = false) {n : Nat} {as : List Value} {P : xH} {z : xR × xH} (h : f_X10_init n 0 as P = some z) : Ct G l 6 mX10_init as P (fun r P1 => (r, P1) = z) := by
  cases n with
  | zero => cases h
  | succ n =>
    unfold f_X10_init at h
    split at h
    · exact Ct.of hl (by decide +kernel) wc_X10_init (Nat.le_of_ble_eq_true rfl) (t_X10_init_0 hl (s_X10_init hl _) h rfl)
    all_goals first | (cases h; done) | (rename_i q9 _; exact absurd q9 (by decide)) | (rename_i q9; exact absurd q9 (by decide)) | contradiction
