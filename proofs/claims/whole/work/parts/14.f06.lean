/-! QuakeNet$Net.giveAway(II)V -/
def b_X1_giveAway_0 (n : Nat) (rec : Nat → List Value → xH → xO) (a0 : Nat) (a1 : Int32) (a2 : Int32) (P : xH) : xO :=
  if a2 = ((-1)) then
    some (.inl none, P)
  else
    (kO P a0 1).bind fun _ =>
    (f_X1_lose n 0 [.ref a0, .int a1, .int a2] P).bind fun r2 => xU r2 fun P1 =>
    (rA P1 a0 1 13).bind fun v5 =>
    (aI P1 v5 a1).bind fun v7 =>
    (sI P1 v5 a1 ((v7 ||| ((1 <<< (a2 &&& 31)))))).bind fun P9 =>
    (rA P9 a0 1 5).bind fun v11 =>
    (aA P9 v11 7).bind fun v13 =>
    (aI P9 v13 a1).bind fun v15 =>
    (sI P9 v13 a1 ((v15 + 1))).bind fun P17 =>
    some (.inl none, P17)
def lay_X1_giveAway : Nat → List Value → Option (xL × List Value)
  | 0, [a0, a1, a2] => some ([some a0, some a1, some a2], [])
  | _, _ => none
def f_X1_giveAway : Nat → Nat → List Value → xH → xO
  | 0 => fun _ _ _ => none
  | n + 1 => fun pc env P => match pc, env with
    | 0, [.ref a0, .int a1, .int a2] => b_X1_giveAway_0 n (f_X1_giveAway n) a0 a1 a2 P
    | _, _ => none
set_option maxHeartbeats 2000000 in
set_option maxRecDepth 20000 in
theorem t_X1_giveAway_0 {G : xG} {l : Launch} (hl : l.stackTraces = false) {n : Nat} {rec : Nat → List Value → xH → xO} (hrec : ∀ pc env P z, rec pc env P = some z → ∀ L st, lay_X1_giveAway pc env = some (L, st) → ∀ Q : xR → xH → Prop, Q z.1 z.2 → Wp G l 5 mX1_giveAway pc L st P Q) {a0 a1 a2} {P : xH} {z : xR × xH} (h : b_X1_giveAway_0 n rec a0 a1 a2 P = some z) {Q : xR → xH → Prop} (hQ : Q z.1 z.2) : Wp G l 5 mX1_giveAway 0 [some (.ref a0), some (.int a1), some (.int a2)] [] P Q := by
  unfold b_X1_giveAway_0 at h
  refine x_iload_n dX1_giveAway_0 rfl ?_
  refine x_iconst (-1) dX1_giveAway_1 (by decide) ?_
  refine x_icmp_eq 36 dX1_giveAway_2 (by decide) (fun q19 => ?_) (fun q19 => ?_)
  · rw [if_pos q19] at h
    cases h
    exact x_ret rfl dX1_giveAway_36 hQ
  · rw [if_neg q19] at h
    refine x_aload_nr dX1_giveAway_5 rfl ?_
    refine x_iload_n dX1_giveAway_6 rfl ?_
    refine x_iload_n dX1_giveAway_7 rfl ?_
    obtain ⟨_, e4, h⟩ := Option.bind_eq_some_iff.mp h
    obtain ⟨fse4, e4⟩ := kO_ok e4
    obtain ⟨r2, e3, h⟩ := Option.bind_eq_some_iff.mp h
    replace h := xU_ok h
    obtain ⟨P1, rfl, h⟩ := h
    refine x_callV (c_X1_lose hl e3) dX1_giveAway_8 cw_X1_lose wl_X1_97 wi_X1_lose wse_X1_lose rfl e4 (by decide) rfl (by omega) (by decide) rfl (Nat.le_of_ble_eq_true rfl) rfl (fun v9 P9 hq9 => ?_) (fun i9 P9 hq9 => by cases hq9)
    cases hq9
    refine x_aload_nr dX1_giveAway_11 rfl ?_
    obtain ⟨v5, e6, h⟩ := Option.bind_eq_some_iff.mp h
    refine k_rA e6 dX1_giveAway_12 f_X1_39 ?_
    refine x_iload_n dX1_giveAway_15 rfl ?_
    refine x_dup2 dX1_giveAway_16 rfl rfl ?_
    obtain ⟨v7, e8, h⟩ := Option.bind_eq_some_iff.mp h
    refine k_aI e8 dX1_giveAway_17 ?_
    refine x_iconst 1 dX1_giveAway_18 (by decide) ?_
    refine x_iload_n dX1_giveAway_19 rfl ?_
    refine x_ishl dX1_giveAway_20 ?_
    refine x_ior dX1_giveAway_21 ?_
    obtain ⟨P9, e10, h⟩ := Option.bind_eq_some_iff.mp h
    refine k_sI e10 dX1_giveAway_22 ?_
    refine x_aload_nr dX1_giveAway_23 rfl ?_
    obtain ⟨v11, e12, h⟩ := Option.bind_eq_some_iff.mp h
    refine k_rA e12 dX1_giveAway_24 f_X1_13 ?_
    refine x_bipush 7 dX1_giveAway_27 (by decide) ?_
    obtain ⟨v13, e14, h⟩ := Option.bind_eq_some_iff.mp h
    refine k_aA e14 dX1_giveAway_29 ?_
    refine x_iload_n dX1_giveAway_30 rfl ?_
    refine x_dup2 dX1_giveAway_31 rfl rfl ?_
    obtain ⟨v15, e16, h⟩ := Option.bind_eq_some_iff.mp h
    refine k_aI e16 dX1_giveAway_32 ?_
    refine x_iconst 1 dX1_giveAway_33 (by decide) ?_
    refine x_iadd dX1_giveAway_34 ?_
    obtain ⟨P17, e18, h⟩ := Option.bind_eq_some_iff.mp h
    refine k_sI e18 dX1_giveAway_35 ?_
    cases h
    exact x_ret rfl dX1_giveAway_36 hQ
theorem s_X1_giveAway {G : xG} {l : Launch} (hl : l.stackTraces = false) : ∀ n pc env P z, f_X1_giveAway n pc env P = some z → ∀ L st, lay_X1_giveAway pc env = some (L, st) → ∀ Q : xR → xH → Prop, Q z.1 z.2 → Wp G l 5 mX1_giveAway pc L st P Q := by
  intro n
  induction n with
  | zero => intro pc env P z h; cases h
  | succ n ih =>
    intro pc env P z h L st hlay Q hQ
    unfold f_X1_giveAway at h
    split at h
    · cases hlay
      exact t_X1_giveAway_0 hl ih h hQ
    · cases h
theorem c_X1_giveAway {G : xG} {l : Launch} (hl : l.stackTraces = false) {n : Nat} {as : List Value} {P : xH} {z : xR × xH} (h : f_X1_giveAway n 0 as P = some z) : Ct G l 5 mX1_giveAway as P (fun r P1 => (r, P1) = z) := by
  cases n with
  | zero => cases h
  | succ n =>
    unfold f_X1_giveAway at h
    split at h
    · exact Ct.of hl (by decide +kernel) wc_X1_giveAway (Nat.le_of_ble_eq_true rfl) (t_X1_giveAway_0 hl (s_X1_giveAway hl _) h rfl)
    all_goals first | (cases h; done) | (rename_i q9 _; exact absurd q9 (by decide)) | (rename_i q9; exact absurd q9 (by decide)) | contradiction
/-! QuakeNet$Net.isFull(I)Z -/
def b_X1_isFull_0 (n : Nat) (rec : Nat → List Value → xH → xO) (a0 : Nat) (a1 : Int32) (P : xH) : xO :=
  (rA P a0 1 5).bind fun v1 =>
  (aA P v1 2).bind fun v3 =>
  (aI P v3 a1).bind fun v5 =>
  (rA P a0 1 5).bind fun v7 =>
  (aA P v7 3).bind fun v9 =>
  (aI P v9 a1).bind fun v11 =>
  if v5 < v11 then
    some (.inl (some (.int 0)), P)
  else
    some (.inl (some (.int 1)), P)
def lay_X1_isFull : Nat → List Value → Option (xL × List Value)
  | 0, [a0, a1] => some ([some a0, some a1], [])
  | _, _ => none
def f_X1_isFull : Nat → Nat → List Value → xH → xO
  | 0 => fun _ _ _ => none
  | n + 1 => fun pc env P => match pc, env with
    | 0, [.ref a0, .int a1] => b_X1_isFull_0 n (f_X1_isFull n) a0 a1 P
    | _, _ => none
set_option maxHeartbeats 2000000 in
set_option maxRecDepth 20000 in
theorem t_X1_isFull_0 {G : xG} {l : Launch} (hl : l.stackTraces = false) {n : Nat} {rec : Nat → List Value → xH → xO} (hrec : ∀ pc env P z, rec pc env P = some z → ∀ L st, lay_X1_isFull pc env = some (L, st) → ∀ Q : xR → xH → Prop, Q z.1 z.2 → Wp G l 3 mX1_isFull pc L st P Q) {a0 a1} {P : xH} {z : xR × xH} (h : b_X1_isFull_0 n rec a0 a1 P = some z) {Q : xR → xH → Prop} (hQ : Q z.1 z.2) : Wp G l 3 mX1_isFull 0 [some (.ref a0), some (.int a1)] [] P Q := by
  unfold b_X1_isFull_0 at h
  refine x_aload_nr dX1_isFull_0 rfl ?_
  obtain ⟨v1, e2, h⟩ := Option.bind_eq_some_iff.mp h
  refine k_rA e2 dX1_isFull_1 f_X1_13 ?_
  refine x_iconst 2 dX1_isFull_4 (by decide) ?_
  obtain ⟨v3, e4, h⟩ := Option.bind_eq_some_iff.mp h
  refine k_aA e4 dX1_isFull_5 ?_
  refine x_iload_n dX1_isFull_6 rfl ?_
  obtain ⟨v5, e6, h⟩ := Option.bind_eq_some_iff.mp h
  refine k_aI e6 dX1_isFull_7 ?_
  refine x_aload_nr dX1_isFull_8 rfl ?_
  obtain ⟨v7, e8, h⟩ := Option.bind_eq_some_iff.mp h
  refine k_rA e8 dX1_isFull_9 f_X1_13 ?_
  refine x_iconst 3 dX1_isFull_12 (by decide) ?_
  obtain ⟨v9, e10, h⟩ := Option.bind_eq_some_iff.mp h
  refine k_aA e10 dX1_isFull_13 ?_
  refine x_iload_n dX1_isFull_14 rfl ?_
  obtain ⟨v11, e12, h⟩ := Option.bind_eq_some_iff.mp h
  refine k_aI e12 dX1_isFull_15 ?_
  refine x_icmp_lt 23 dX1_isFull_16 (by decide) (fun q13 => ?_) (fun q13 => ?_)
  · rw [if_pos q13] at h
    refine x_iconst 0 dX1_isFull_23 (by decide) ?_
    cases h
    exact x_iret .boolean rfl rfl dX1_isFull_24 hQ
  · rw [if_neg q13] at h
    refine x_iconst 1 dX1_isFull_19 (by decide) ?_
    refine x_goto 24 dX1_isFull_20 (by decide) ?_
    cases h
    exact x_iret .boolean rfl rfl dX1_isFull_24 hQ
theorem s_X1_isFull {G : xG} {l : Launch} (hl : l.stackTraces = false) : ∀ n pc env P z, f_X1_isFull n pc env P = some z → ∀ L st, lay_X1_isFull pc env = some (L, st) → ∀ Q : xR → xH → Prop, Q z.1 z.2 → Wp G l 3 mX1_isFull pc L st P Q := by
  intro n
  induction n with
  | zero => intro pc env P z h; cases h
  | succ n ih =>
    intro pc env P z h L st hlay Q hQ
    unfold f_X1_isFull at h
    split at h
    · cases hlay
      exact t_X1_isFull_0 hl ih h hQ
    · cases h
theorem c_X1_isFull {G : xG} {l : Launch} (hl : l.stackTraces = false) {n : Nat} {as : List Value} {P : xH} {z : xR × xH} (h : f_X1_isFull n 0 as P = some z) : Ct G l 3 mX1_isFull as P (fun r P1 => (r, P1) = z) := by
  cases n with
  | zero => cases h
  | succ n =>
    unfold f_X1_isFull at h
    split at h
    · exact Ct.of hl (by decide +kernel) wc_X1_isFull (Nat.le_of_ble_eq_true rfl) (t_X1_isFull_0 hl (s_X1_isFull hl _) h rfl)
    all_goals first | (cases h; done) | (rename_i q9 _; exact absurd q9 (by decide)) | (rename_i q9; exact absurd q9 (by decide)) | contradiction
/-! QuakeNet$Net.cell(II)I -/
def b_X1_cell_0 (n : Nat) (rec : Nat → List Value → xH → xO) (a0 : Int32) (a1 : Int32) (P : xH) : xO :=
  some (.inl (some (.int ((((a0 * 30)) + a1)))), P)
def lay_X1_cell : Nat → List Value → Option (xL × List Value)
  | 0, [a0, a1] => some ([some a0, some a1], [])
  | _, _ => none
def f_X1_cell : Nat → Nat → List Value → xH → xO
  | 0 => fun _ _ _ => none
  | n + 1 => fun pc env P => match pc, env with
    | 0, [.int a0, .int a1] => b_X1_cell_0 n (f_X1_cell n) a0 a1 P
    | _, _ => none
set_option maxHeartbeats 2000000 in
set_option maxRecDepth 20000 in
theorem t_X1_cell_0 {G : xG} {l : Launch} (hl : l.stackTraces = false) {n : Nat} {rec : Nat → List Value → xH → xO} (hrec : ∀ pc env P z, rec pc env P = some z → ∀ L st, lay_X1_cell pc env = some (L, st) → ∀ Q : xR → xH → Prop, Q z.1 z.2 → Wp G l 3 mX1_cell pc L st P Q) {a0 a1} {P : xH} {z : xR × xH} (h : b_X1_cell_0 n rec a0 a1 P = some z) {Q : xR → xH → Prop} (hQ : Q z.1 z.2) : Wp G l 3 mX1_cell 0 [some (.int a0), some (.int a1)] [] P Q := by
  unfold b_X1_cell_0 at h
  refine x_iload_n dX1_cell_0 rfl ?_
  refine x_bipush 30 dX1_cell_1 (by decide) ?_
  refine x_imul dX1_cell_3 ?_
  refine x_iload_n dX1_cell_4 rfl ?_
  refine x_iadd dX1_cell_5 ?_
  cases h
  exact x_iret .int rfl rfl dX1_cell_6 hQ
theorem s_X1_cell {G : xG} {l : Launch} (hl : l.stackTraces = false) : ∀ n pc env P z, f_X1_cell n pc env P = some z → ∀ L st, lay_X1_cell pc env = some (L, st) → ∀ Q : xR → xH → Prop, Q z.1 z.2 → Wp G l 3 mX1_cell pc L st P Q := by
  intro n
  induction n with
  | zero => intro pc env P z h; cases h
  | succ n ih =>
    intro pc env P z h L st hlay Q hQ
    unfold f_X1_cell at h
    split at h
    · cases hlay
      exact t_X1_cell_0 hl ih h hQ
    · cases h
theorem c_X1_cell {G : xG} {l : Launch} (hl : l.stackTraces = false) {n : Nat} {as : List Value} {P : xH} {z : xR × xH} (h : f_X1_cell n 0 as P = some z) : Ct G l 3 mX1_cell as P (fun r P1 => (r, P1) = z) := by
  cases n with
  | zero => cases h
  | succ n =>
    unfold f_X1_cell at h
    split at h
    · exact Ct.of hl (by decide +kernel) wc_X1_cell (Nat.le_of_ble_eq_true rfl) (t_X1_cell_0 hl (s_X1_cell hl _) h rfl)
    all_goals first | (cases h; done) | (rename_i q9 _; exact absurd q9 (by decide)) | (rename_i q9; exact absurd q9 (by decide)) | contradiction
/-! QuakeNet$Net.loadFacts(II)V -/
def b_X1_loadFacts_0 (n : Nat) (rec : Nat → List Value → xH → xO) (a0 : Nat) (a1 : Int32) (a2 : Int32) (P : xH) : xO :=
  if ¬ a2 = ((-1)) then
    (f_X1_cell n 0 [.int a1, .int a2] P).bind fun r2 => xI r2 fun v4 P1 =>
    (rA P1 a0 1 1).bind fun v5 =>
    (rA P1 a0 1 0).bind fun v7 =>
    (rA P1 v7 9 0).bind fun v9 =>
    (aA P1 v9 0).bind fun v11 =>
    (aI P1 v11 a2).bind fun v13 =>
    (wV P1 v5 5 7 (.int ((1 <<< (v13 &&& 31))))).bind fun P15 =>
    (rA P15 a0 1 1).bind fun v17 =>
    (rA P15 v17 5 6).bind fun v19 =>
    (rI P15 a0 1 2).bind fun v21 =>
    (rA P15 a0 1 0).bind fun v23 =>
    (rA P15 v23 9 0).bind fun v25 =>
    (aA P15 v25 2).bind fun v27 =>
    (aI P15 v27 a2).bind fun v29 =>
    (sI P15 v19 0 ((v21 - v29))).bind fun P31 =>
    (rA P31 a0 1 1).bind fun v33 =>
    (rA P31 v33 5 6).bind fun v35 =>
    (rA P31 a0 1 6).bind fun v37 =>
    (aA P31 v37 1).bind fun v39 =>
    (aI P31 v39 v4).bind fun v41 =>
    (sI P31 v35 1 v41).bind fun P43 =>
    (rA P43 a0 1 1).bind fun v45 =>
    (rA P43 v45 5 6).bind fun v47 =>
    (rA P43 a0 1 9).bind fun v49 =>
    (aI P43 v49 a2).bind fun v51 =>
    (sI P43 v47 2 v51).bind fun P53 =>
    (rA P53 a0 1 1).bind fun v55 =>
    (rA P53 v55 5 6).bind fun v57 =>
    (rA P53 a0 1 5).bind fun v59 =>
    (aA P53 v59 1).bind fun v61 =>
    (aI P53 v61 a1).bind fun v63 =>
    (sI P53 v57 3 v63).bind fun P65 =>
    (rA P65 a0 1 1).bind fun v67 =>
    (rA P65 v67 5 6).bind fun v69 =>
    (rA P65 a0 1 6).bind fun v71 =>
    (aA P65 v71 0).bind fun v73 =>
    (aI P65 v73 v4).bind fun v75 =>
    (sI P65 v69 4 v75).bind fun P77 =>
    some (.inl none, P77)
  else
    some (.inl none, P)
def lay_X1_loadFacts : Nat → List Value → Option (xL × List Value)
  | 0, [a0, a1, a2] => some ([some a0, some a1, some a2, none], [])
  | _, _ => none
def f_X1_loadFacts : Nat → Nat → List Value → xH → xO
  | 0 => fun _ _ _ => none
  | n + 1 => fun pc env P => match pc, env with
    | 0, [.ref a0, .int a1, .int a2] => b_X1_loadFacts_0 n (f_X1_loadFacts n) a0 a1 a2 P
    | _, _ => none
set_option maxHeartbeats 2000000 in
set_option maxRecDepth 20000 in
theorem t_X1_loadFacts_0 {G : xG} {l : Launch} (hl : l.stackTraces = false) {n : Nat} {rec : Nat → List Value → xH → xO} (hrec : ∀ pc env P z, rec pc env P = some z → ∀ L st, lay_X1_loadFacts pc env = some (L, st) → ∀ Q : xR → xH → Prop, Q z.1 z.2 → Wp G l 4 mX1_loadFacts pc L st P Q) {a0 a1 a2} {P : xH} {z : xR × xH} (h : b_X1_loadFacts_0 n rec a0 a1 a2 P = some z) {Q : xR → xH → Prop} (hQ : Q z.1 z.2) : Wp G l 4 mX1_loadFacts 0 [some (.ref a0), some (.int a1), some (.int a2), none] [] P Q := by
  unfold b_X1_loadFacts_0 at h
  refine x_iload_n dX1_loadFacts_0 rfl ?_
  refine x_iconst (-1) dX1_loadFacts_1 (by decide) ?_
  refine x_icmp_ne 6 dX1_loadFacts_2 (by decide) (fun q79 => ?_) (fun q79 => ?_)
  · rw [if_pos q79] at h
    refine x_iload_n dX1_loadFacts_6 rfl ?_
    refine x_iload_n dX1_loadFacts_7 rfl ?_
    obtain ⟨r2, e3, h⟩ := Option.bind_eq_some_iff.mp h
    replace h := xI_ok h
    obtain ⟨v4, P1, rfl, h⟩ := h
    refine x_callS (c_X1_cell hl e3) dX1_loadFacts_8 cw_X1_cell wl_X1_164 ws_X1_cell rfl (by omega) (by decide) rfl (Nat.le_of_ble_eq_true rfl) rfl (fun v9 P9 hq9 => ?_) (fun i9 P9 hq9 => by cases hq9)
    cases hq9
    refine x_istore_n dX1_loadFacts_11 (Nat.le_of_ble_eq_true rfl) ?_
    refine x_aload_nr dX1_loadFacts_12 rfl ?_
    obtain ⟨v5, e6, h⟩ := Option.bind_eq_some_iff.mp h
    refine k_rA e6 dX1_loadFacts_13 f_X1_46 ?_
    refine x_iconst 1 dX1_loadFacts_16 (by decide) ?_
    refine x_aload_nr dX1_loadFacts_17 rfl ?_
    obtain ⟨v7, e8, h⟩ := Option.bind_eq_some_iff.mp h
    refine k_rA e8 dX1_loadFacts_18 f_X1_42 ?_
    obtain ⟨v9, e10, h⟩ := Option.bind_eq_some_iff.mp h
    refine k_rA e10 dX1_loadFacts_21 f_X1_82 ?_
    refine x_iconst 0 dX1_loadFacts_24 (by decide) ?_
    obtain ⟨v11, e12, h⟩ := Option.bind_eq_some_iff.mp h
    refine k_aA e12 dX1_loadFacts_25 ?_
    refine x_iload_n dX1_loadFacts_26 rfl ?_
    obtain ⟨v13, e14, h⟩ := Option.bind_eq_some_iff.mp h
    refine k_aI e14 dX1_loadFacts_27 ?_
    refine x_ishl dX1_loadFacts_28 ?_
    obtain ⟨P15, e16, h⟩ := Option.bind_eq_some_iff.mp h
    refine k_wI e16 dX1_loadFacts_29 f_X1_181 (Or.inl (by decide)) rfl ?_
    refine x_aload_nr dX1_loadFacts_32 rfl ?_
    obtain ⟨v17, e18, h⟩ := Option.bind_eq_some_iff.mp h
    refine k_rA e18 dX1_loadFacts_33 f_X1_46 ?_
    obtain ⟨v19, e20, h⟩ := Option.bind_eq_some_iff.mp h
    refine k_rA e20 dX1_loadFacts_36 f_X1_184 ?_
    refine x_iconst 0 dX1_loadFacts_39 (by decide) ?_
    refine x_aload_nr dX1_loadFacts_40 rfl ?_
    obtain ⟨v21, e22, h⟩ := Option.bind_eq_some_iff.mp h
    refine k_rI e22 dX1_loadFacts_41 f_X1_56 ?_
    refine x_aload_nr dX1_loadFacts_44 rfl ?_
    obtain ⟨v23, e24, h⟩ := Option.bind_eq_some_iff.mp h
    refine k_rA e24 dX1_loadFacts_45 f_X1_42 ?_
    obtain ⟨v25, e26, h⟩ := Option.bind_eq_some_iff.mp h
    refine k_rA e26 dX1_loadFacts_48 f_X1_82 ?_
    refine x_iconst 2 dX1_loadFacts_51 (by decide) ?_
    obtain ⟨v27, e28, h⟩ := Option.bind_eq_some_iff.mp h
    refine k_aA e28 dX1_loadFacts_52 ?_
    refine x_iload_n dX1_loadFacts_53 rfl ?_
    obtain ⟨v29, e30, h⟩ := Option.bind_eq_some_iff.mp h
    refine k_aI e30 dX1_loadFacts_54 ?_
    refine x_isub dX1_loadFacts_55 ?_
    obtain ⟨P31, e32, h⟩ := Option.bind_eq_some_iff.mp h
    refine k_sI e32 dX1_loadFacts_56 ?_
    refine x_aload_nr dX1_loadFacts_57 rfl ?_
    obtain ⟨v33, e34, h⟩ := Option.bind_eq_some_iff.mp h
    refine k_rA e34 dX1_loadFacts_58 f_X1_46 ?_
    obtain ⟨v35, e36, h⟩ := Option.bind_eq_some_iff.mp h
    refine k_rA e36 dX1_loadFacts_61 f_X1_184 ?_
    refine x_iconst 1 dX1_loadFacts_64 (by decide) ?_
    refine x_aload_nr dX1_loadFacts_65 rfl ?_
    obtain ⟨v37, e38, h⟩ := Option.bind_eq_some_iff.mp h
    refine k_rA e38 dX1_loadFacts_66 f_X1_16 ?_
    refine x_iconst 1 dX1_loadFacts_69 (by decide) ?_
    obtain ⟨v39, e40, h⟩ := Option.bind_eq_some_iff.mp h
    refine k_aA e40 dX1_loadFacts_70 ?_
    refine x_iload_n dX1_loadFacts_71 rfl ?_
    obtain ⟨v41, e42, h⟩ := Option.bind_eq_some_iff.mp h
    refine k_aI e42 dX1_loadFacts_72 ?_
    obtain ⟨P43, e44, h⟩ := Option.bind_eq_some_iff.mp h
    refine k_sI e44 dX1_loadFacts_73 ?_
    refine x_aload_nr dX1_loadFacts_74 rfl ?_
    obtain ⟨v45, e46, h⟩ := Option.bind_eq_some_iff.mp h
    refine k_rA e46 dX1_loadFacts_75 f_X1_46 ?_
    obtain ⟨v47, e48, h⟩ := Option.bind_eq_some_iff.mp h
    refine k_rA e48 dX1_loadFacts_78 f_X1_184 ?_
    refine x_iconst 2 dX1_loadFacts_81 (by decide) ?_
    refine x_aload_nr dX1_loadFacts_82 rfl ?_
    obtain ⟨v49, e50, h⟩ := Option.bind_eq_some_iff.mp h
    refine k_rA e50 dX1_loadFacts_83 f_X1_27 ?_
    refine x_iload_n dX1_loadFacts_86 rfl ?_
    obtain ⟨v51, e52, h⟩ := Option.bind_eq_some_iff.mp h
    refine k_aI e52 dX1_loadFacts_87 ?_
    obtain ⟨P53, e54, h⟩ := Option.bind_eq_some_iff.mp h
    refine k_sI e54 dX1_loadFacts_88 ?_
    refine x_aload_nr dX1_loadFacts_89 rfl ?_
    obtain ⟨v55, e56, h⟩ := Option.bind_eq_some_iff.mp h
    refine k_rA e56 dX1_loadFacts_90 f_X1_46 ?_
    obtain ⟨v57, e58, h⟩ := Option.bind_eq_some_iff.mp h
    refine k_rA e58 dX1_loadFacts_93 f_X1_184 ?_
    refine x_iconst 3 dX1_loadFacts_96 (by decide) ?_
    refine x_aload_nr dX1_loadFacts_97 rfl ?_
    obtain ⟨v59, e60, h⟩ := Option.bind_eq_some_iff.mp h
    refine k_rA e60 dX1_loadFacts_98 f_X1_13 ?_
    refine x_iconst 1 dX1_loadFacts_101 (by decide) ?_
    obtain ⟨v61, e62, h⟩ := Option.bind_eq_some_iff.mp h
    refine k_aA e62 dX1_loadFacts_102 ?_
    refine x_iload_n dX1_loadFacts_103 rfl ?_
    obtain ⟨v63, e64, h⟩ := Option.bind_eq_some_iff.mp h
    refine k_aI e64 dX1_loadFacts_104 ?_
    obtain ⟨P65, e66, h⟩ := Option.bind_eq_some_iff.mp h
    refine k_sI e66 dX1_loadFacts_105 ?_
    refine x_aload_nr dX1_loadFacts_106 rfl ?_
    obtain ⟨v67, e68, h⟩ := Option.bind_eq_some_iff.mp h
    refine k_rA e68 dX1_loadFacts_107 f_X1_46 ?_
    obtain ⟨v69, e70, h⟩ := Option.bind_eq_some_iff.mp h
    refine k_rA e70 dX1_loadFacts_110 f_X1_184 ?_
    refine x_iconst 4 dX1_loadFacts_113 (by decide) ?_
    refine x_aload_nr dX1_loadFacts_114 rfl ?_
    obtain ⟨v71, e72, h⟩ := Option.bind_eq_some_iff.mp h
    refine k_rA e72 dX1_loadFacts_115 f_X1_16 ?_
    refine x_iconst 0 dX1_loadFacts_118 (by decide) ?_
    obtain ⟨v73, e74, h⟩ := Option.bind_eq_some_iff.mp h
    refine k_aA e74 dX1_loadFacts_119 ?_
    refine x_iload_n dX1_loadFacts_120 rfl ?_
    obtain ⟨v75, e76, h⟩ := Option.bind_eq_some_iff.mp h
    refine k_aI e76 dX1_loadFacts_121 ?_
    obtain ⟨P77, e78, h⟩ := Option.bind_eq_some_iff.mp h
    refine k_sI e78 dX1_loadFacts_122 ?_
    cases h
    exact x_ret rfl dX1_loadFacts_123 hQ
  · rw [if_neg (fun z9 => z9 q79)] at h
    cases h
    exact x_ret rfl dX1_loadFacts_5 hQ
theorem s_X1_loadFacts {G : xG} {l : Launch} (hl : l.stackTraces = false) : ∀ n pc env P z, f_X1_loadFacts n pc env P = some z → ∀ L st, lay_X1_loadFacts pc env = some (L, st) → ∀ Q : xR → xH → Prop, Q z.1 z.2 → Wp G l 4 mX1_loadFacts pc L st P Q := by
  intro n
  induction n with
  | zero => intro pc env P z h; cases h
  | succ n ih =>
    intro pc env P z h L st hlay Q hQ
    unfold f_X1_loadFacts at h
    split at h
    · cases hlay
      exact t_X1_loadFacts_0 hl ih h hQ
    · cases h
theorem c_X1_loadFacts {G : xG} {l : Launch} (hl : l.stackTraces = false) {n : Nat} {as : List Value} {P : xH} {z : xR × xH} (h : f_X1_loadFacts n 0 as P = some z) : Ct G l 4 mX1_loadFacts as P (fun r P1 => (r, P1) = z) := by
  cases n with
  | zero => cases h
  | succ n =>
    unfold f_X1_loadFacts at h
    split at h
    · exact Ct.of hl (by decide +kernel) wc_X1_loadFacts (Nat.le_of_ble_eq_true rfl) (t_X1_loadFacts_0 hl (s_X1_loadFacts hl _) h rfl)
    all_goals first | (cases h; done) | (rename_i q9 _; exact absurd q9 (by decide)) | (rename_i q9; exact absurd q9 (by decide)) | contradiction
/-! QuakeNet$Rules.holds(I)Z -/
def b_X5_holds_0 (n : Nat) (rec : Nat → List Value → xH → xO) (a0 : Nat) (a1 : Int32) (P : xH) : xO :=
  (rA P a0 5 2).bind fun v1 =>
  (aI P v1 a1).bind fun v3 =>
  rec 10 [.ref a0, .int a1, .long 1, .int v3] P
def b_X5_holds_10 (n : Nat) (rec : Nat → List Value → xH → xO) (a0 : Nat) (a1 : Int32) (a2 : Int64) (a4 : Int32) (P : xH) : xO :=
  (rA P a0 5 2).bind fun v1 =>
  (aI P v1 ((a1 + 1))).bind fun v3 =>
  if v3 ≤ a4 then
    rec 226 [.ref a0, .int a1, .long a2, .int a4] P
  else
    (rA P a0 5 4).bind fun v5 =>
    (aL P v5).bind fun v7 =>
    if v7 ≤ a4 then
      rec 226 [.ref a0, .int a1, .long a2, .int a4] P
    else
      (rA P a0 5 4).bind fun v9 =>
      (aI P v9 a4).bind fun v11 =>
      (rA P a0 5 6).bind fun v13 =>
      (aL P v13).bind fun v15 =>
      if v15 ≤ ((((v11 >>> (4 &&& 31))) &&& 15)) then
        rec 68 [.ref a0, .int a1, .long a2, .int a4, .int ((((v11 >>> (4 &&& 31))) &&& 15)), .int 0] P
      else
        (rA P a0 5 6).bind fun v17 =>
        (aI P v17 ((((v11 >>> (4 &&& 31))) &&& 15))).bind fun v19 =>
        rec 68 [.ref a0, .int a1, .long a2, .int a4, .int ((((v11 >>> (4 &&& 31))) &&& 15)), .int v19] P
def b_X5_holds_68 (n : Nat) (rec : Nat → List Value → xH → xO) (a0 : Nat) (a1 : Int32) (a2 : Int64) (a4 : Int32) (a5 : Int32) (s0 : Int32) (P : xH) : xO :=
  (rA P a0 5 4).bind fun v1 =>
  (aI P v1 a4).bind fun v3 =>
  (rA P a0 5 4).bind fun v5 =>
  (aI P v5 a4).bind fun v7 =>
  if Int32.toInt ((v7 &&& 15)) < 0 ∨ 4 < Int32.toInt ((v7 &&& 15)) then
    rec 10 [.ref a0, .int a1, .long ((((a2 >>> (Int32.toInt64 1 &&& 63))) ||| ((a2 &&& 1)))), .int ((a4 + 1))] P
  else
  if ((v7 &&& 15)) = 0 then
    (rI P a0 5 7).bind fun v10 =>
    rec 10 [.ref a0, .int a1, .long ((((a2 <<< (Int32.toInt64 1 &&& 63))) ||| ((Int32.toInt64 ((((v10 >>> (a5 &&& 31))) &&& 1)))))), .int ((a4 + 1))] P
  else
  if ((v7 &&& 15)) = 1 then
    if ((v3 >>> (8 &&& 31))) ≤ s0 then
      rec 10 [.ref a0, .int a1, .long ((((a2 <<< (Int32.toInt64 1 &&& 63))) ||| ((Int32.toInt64 0)))), .int ((a4 + 1))] P
    else
      rec 10 [.ref a0, .int a1, .long ((((a2 <<< (Int32.toInt64 1 &&& 63))) ||| ((Int32.toInt64 1)))), .int ((a4 + 1))] P
  else
  if ((v7 &&& 15)) = 2 then
    if s0 ≤ ((v3 >>> (8 &&& 31))) then
      rec 10 [.ref a0, .int a1, .long ((((a2 <<< (Int32.toInt64 1 &&& 63))) ||| ((Int32.toInt64 0)))), .int ((a4 + 1))] P
    else
      rec 10 [.ref a0, .int a1, .long ((((a2 <<< (Int32.toInt64 1 &&& 63))) ||| ((Int32.toInt64 1)))), .int ((a4 + 1))] P
  else
  if ((v7 &&& 15)) = 3 then
    rec 10 [.ref a0, .int a1, .long ((a2 ^^^ 1)), .int ((a4 + 1))] P
  else
  if ((v7 &&& 15)) = 4 then
    rec 10 [.ref a0, .int a1, .long ((((a2 >>> (Int32.toInt64 1 &&& 63))) &&& ((((-2)) ||| ((a2 &&& 1)))))), .int ((a4 + 1))] P
  else
  none
def b_X5_holds_226 (n : Nat) (rec : Nat → List Value → xH → xO) (a0 : Nat) (a1 : Int32) (a2 : Int64) (a4 : Int32) (P : xH) : xO :=
  if ((lg_cmp ((a2 &&& 1)) 0)) = 0 then
    some (.inl (some (.int 0)), P)
  else
    some (.inl (some (.int 1)), P)
def lay_X5_holds : Nat → List Value → Option (xL × List Value)
  | 0, [a0, a1] => some ([some a0, some a1, none, none, none, none, none, none, none, none], [])
  | 10, [a0, a1, a2, a4] => some ([some a0, some a1, some a2, none, some a4, none, none, none, none, none], [])
  | 68, [a0, a1, a2, a4, a5, s0] => some ([some a0, some a1, some a2, none, some a4, some a5, none, none, none, none], [s0])
  | 226, [a0, a1, a2, a4] => some ([some a0, some a1, some a2, none, some a4, none, none, none, none, none], [])
  | _, _ => none
def f_X5_holds : Nat → Nat → List Value → xH → xO
  | 0 => fun _ _ _ => none
  | n + 1 => fun pc env P => match pc, env with
    | 0, [.ref a0, .int a1] => b_X5_holds_0 n (f_X5_holds n) a0 a1 P
    | 10, [.ref a0, .int a1, .long a2, .int a4] => b_X5_holds_10 n (f_X5_holds n) a0 a1 a2 a4 P
    | 68, [.ref a0, .int a1, .long a2, .int a4, .int a5, .int s0] => b_X5_holds_68 n (f_X5_holds n) a0 a1 a2 a4 a5 s0 P
    | 226, [.ref a0, .int a1, .long a2, .int a4] => b_X5_holds_226 n (f_X5_holds n) a0 a1 a2 a4 P
    | _, _ => none
set_option maxHeartbeats 2000000 in
set_option maxRecDepth 20000 in
theorem t_X5_holds_0 {G : xG} {l : Launch} (hl : l.stackTraces = false) {n : Nat} {rec : Nat → List Value → xH → xO} (hrec : ∀ pc env P z, rec pc env P = some z → ∀ L st, lay_X5_holds pc env = some (L, st) → ∀ Q : xR → xH → Prop, Q z.1 z.2 → Wp G l 3 mX5_holds pc L st P Q) {a0 a1} {P : xH} {z : xR × xH} (h : b_X5_holds_0 n rec a0 a1 P = some z) {Q : xR → xH → Prop} (hQ : Q z.1 z.2) : Wp G l 3 mX5_holds 0 [some (.ref a0), some (.int a1), none, none, none, none, none, none, none, none] [] P Q := by
  unfold b_X5_holds_0 at h
  refine x_lconst 1 dX5_holds_0 (by decide) ?_
  refine x_lstore_n dX5_holds_1 (Nat.le_of_ble_eq_true rfl) ?_
  refine x_aload_nr dX5_holds_2 rfl ?_
  obtain ⟨v1, e2, h⟩ := Option.bind_eq_some_iff.mp h
  refine k_rA e2 dX5_holds_3 f_X5_16 ?_
  refine x_iload_n dX5_holds_6 rfl ?_
  obtain ⟨v3, e4, h⟩ := Option.bind_eq_some_iff.mp h
  refine k_aI e4 dX5_holds_7 ?_
  refine x_istore dX5_holds_8 (Nat.le_of_ble_eq_true rfl) ?_
  exact Wp.mask [true, true, true, false, true, false, false, false, false, false] (hrec 10 _ _ _ h _ _ rfl _ hQ)
set_option maxHeartbeats 2000000 in
set_option maxRecDepth 20000 in
theorem t_X5_holds_10 {G : xG} {l : Launch} (hl : l.stackTraces = false) {n : Nat} {rec : Nat → List Value → xH → xO} (hrec : ∀ pc env P z, rec pc env P = some z → ∀ L st, lay_X5_holds pc env = some (L, st) → ∀ Q : xR → xH → Prop, Q z.1 z.2 → Wp G l 3 mX5_holds pc L st P Q) {a0 a1 a2 a4} {P : xH} {z : xR × xH} (h : b_X5_holds_10 n rec a0 a1 a2 a4 P = some z) {Q : xR → xH → Prop} (hQ : Q z.1 z.2) : Wp G l 3 mX5_holds 10 [some (.ref a0), some (.int a1), some (.long a2), none, some (.int a4), none, none, none, none, none] [] P Q := by
  unfold b_X5_holds_10 at h
  refine x_iload dX5_holds_10 rfl ?_
  refine x_aload_nr dX5_holds_12 rfl ?_
  obtain ⟨v1, e2, h⟩ := Option.bind_eq_some_iff.mp h
  refine k_rA e2 dX5_holds_13 f_X5_16 ?_
  refine x_iload_n dX5_holds_16 rfl ?_
  refine x_iconst 1 dX5_holds_17 (by decide) ?_
  refine x_iadd dX5_holds_18 ?_
  obtain ⟨v3, e4, h⟩ := Option.bind_eq_some_iff.mp h
  refine k_aI e4 dX5_holds_19 ?_
  refine x_icmp_ge 226 dX5_holds_20 (by decide) (fun q23 => ?_) (fun q23 => ?_)
  · rw [if_pos q23] at h
    exact Wp.mask [true, true, true, false, true, false, false, false, false, false] (hrec 226 _ _ _ h _ _ rfl _ hQ)
  · rw [if_neg q23] at h
    refine x_iload dX5_holds_23 rfl ?_
    refine x_aload_nr dX5_holds_25 rfl ?_
    obtain ⟨v5, e6, h⟩ := Option.bind_eq_some_iff.mp h
    refine k_rA e6 dX5_holds_26 f_X5_19 ?_
    obtain ⟨v7, e8, h⟩ := Option.bind_eq_some_iff.mp h
    refine k_aL e8 dX5_holds_29 ?_
    refine x_icmp_ge 226 dX5_holds_30 (by decide) (fun q22 => ?_) (fun q22 => ?_)
    · rw [if_pos q22] at h
      exact Wp.mask [true, true, true, false, true, false, false, false, false, false] (hrec 226 _ _ _ h _ _ rfl _ hQ)
    · rw [if_neg q22] at h
      refine x_aload_nr dX5_holds_33 rfl ?_
      obtain ⟨v9, e10, h⟩ := Option.bind_eq_some_iff.mp h
      refine k_rA e10 dX5_holds_34 f_X5_19 ?_
      refine x_iload dX5_holds_37 rfl ?_
      obtain ⟨v11, e12, h⟩ := Option.bind_eq_some_iff.mp h
      refine k_aI e12 dX5_holds_39 ?_
      refine x_iconst 4 dX5_holds_40 (by decide) ?_
      refine x_ishr dX5_holds_41 ?_
      refine x_bipush 15 dX5_holds_42 (by decide) ?_
      refine x_iand dX5_holds_44 ?_
      refine x_istore dX5_holds_45 (Nat.le_of_ble_eq_true rfl) ?_
      refine x_iload dX5_holds_47 rfl ?_
      refine x_aload_nr dX5_holds_49 rfl ?_
      obtain ⟨v13, e14, h⟩ := Option.bind_eq_some_iff.mp h
      refine k_rA e14 dX5_holds_50 f_X5_22 ?_
      obtain ⟨v15, e16, h⟩ := Option.bind_eq_some_iff.mp h
      refine k_aL e16 dX5_holds_53 ?_
      refine x_icmp_ge 67 dX5_holds_54 (by decide) (fun q21 => ?_) (fun q21 => ?_)
      · rw [if_pos q21] at h
        refine x_iconst 0 dX5_holds_67 (by decide) ?_
        exact Wp.mask [true, true, true, false, true, true, false, false, false, false] (hrec 68 _ _ _ h _ _ rfl _ hQ)
      · rw [if_neg q21] at h
        refine x_aload_nr dX5_holds_57 rfl ?_
        obtain ⟨v17, e18, h⟩ := Option.bind_eq_some_iff.mp h
        refine k_rA e18 dX5_holds_58 f_X5_22 ?_
        refine x_iload dX5_holds_61 rfl ?_
        obtain ⟨v19, e20, h⟩ := Option.bind_eq_some_iff.mp h
        refine k_aI e20 dX5_holds_63 ?_
        refine x_goto 68 dX5_holds_64 (by decide) ?_
        exact Wp.mask [true, true, true, false, true, true, false, false, false, false] (hrec 68 _ _ _ h _ _ rfl _ hQ)
set_option maxHeartbeats 2000000 in
set_option maxRecDepth 20000 in
theorem t_X5_holds_68 {G : xG} {l : Launch} (hl : l.stackTraces = false) {n : Nat} {rec : Nat → List Value → xH → xO} (hrec : ∀ pc env P z, rec pc env P = some z → ∀ L st, lay_X5_holds pc env = some (L, st) → ∀ Q : xR → xH → Prop, Q z.1 z.2 → Wp G l 3 mX5_holds pc L st P Q) {a0 a1 a2 a4 a5 s0} {P : xH} {z : xR × xH} (h : b_X5_holds_68 n rec a0 a1 a2 a4 a5 s0 P = some z) {Q : xR → xH → Prop} (hQ : Q z.1 z.2) : Wp G l 3 mX5_holds 68 [some (.ref a0), some (.int a1), some (.long a2), none, some (.int a4), some (.int a5), none, none, none, none] [.int s0] P Q := by
  unfold b_X5_holds_68 at h
  refine x_istore dX5_holds_68 (Nat.le_of_ble_eq_true rfl) ?_
  refine x_aload_nr dX5_holds_70 rfl ?_
  obtain ⟨v1, e2, h⟩ := Option.bind_eq_some_iff.mp h
  refine k_rA e2 dX5_holds_71 f_X5_19 ?_
  refine x_iload dX5_holds_74 rfl ?_
  obtain ⟨v3, e4, h⟩ := Option.bind_eq_some_iff.mp h
  refine k_aI e4 dX5_holds_76 ?_
  refine x_bipush 8 dX5_holds_77 (by decide) ?_
  refine x_ishr dX5_holds_79 ?_
  refine x_istore dX5_holds_80 (Nat.le_of_ble_eq_true rfl) ?_
  refine x_lload_n dX5_holds_82 rfl ?_
  refine x_lconst 1 dX5_holds_83 (by decide) ?_
  refine x_land dX5_holds_84 ?_
  refine x_lstore dX5_holds_85 (Nat.le_of_ble_eq_true rfl) ?_
  refine x_aload_nr dX5_holds_87 rfl ?_
  obtain ⟨v5, e6, h⟩ := Option.bind_eq_some_iff.mp h
  refine k_rA e6 dX5_holds_88 f_X5_19 ?_
  refine x_iload dX5_holds_91 rfl ?_
  obtain ⟨v7, e8, h⟩ := Option.bind_eq_some_iff.mp h
  refine k_aI e8 dX5_holds_93 ?_
  refine x_bipush 15 dX5_holds_94 (by decide) ?_
  refine x_iand dX5_holds_96 ?_
  by_cases q9 : Int32.toInt ((v7 &&& 15)) < 0 ∨ 4 < Int32.toInt ((v7 &&& 15))
  · rw [if_pos q9] at h
    refine x_tabOut 213 dX5_holds_97 q9 (by decide) ?_
    refine x_lload_n dX5_holds_213 rfl ?_
    refine x_iconst 1 dX5_holds_214 (by decide) ?_
    refine x_lshr dX5_holds_215 ?_
    refine x_lload dX5_holds_216 rfl ?_
    refine x_lor dX5_holds_218 ?_
    refine x_lstore_n dX5_holds_219 (Nat.le_of_ble_eq_true rfl) ?_
    refine x_iinc (a4 + 1) dX5_holds_220 rfl (by rfl) ?_
    refine x_goto 10 dX5_holds_223 (by decide) ?_
    exact Wp.mask [true, true, true, false, true, false, false, false, false, false] (hrec 10 _ _ _ h _ _ rfl _ hQ)
  · rw [if_neg q9] at h
    by_cases q12 : ((v7 &&& 15)) = 0
    · rw [if_pos q12] at h
      refine x_tabIn 132 dX5_holds_97 (fun w9 => q9 (Or.inl w9)) (fun w9 => q9 (Or.inr w9)) (by rw [q12]; rfl) (by decide) ?_
      refine x_lload_n dX5_holds_132 rfl ?_
      refine x_iconst 1 dX5_holds_133 (by decide) ?_
      refine x_lshl dX5_holds_134 ?_
      refine x_aload_nr dX5_holds_135 rfl ?_
      obtain ⟨v10, e11, h⟩ := Option.bind_eq_some_iff.mp h
      refine k_rI e11 dX5_holds_136 f_X5_42 ?_
      refine x_iload dX5_holds_139 rfl ?_
      refine x_ishr dX5_holds_141 ?_
      refine x_iconst 1 dX5_holds_142 (by decide) ?_
      refine x_iand dX5_holds_143 ?_
      refine x_i2l dX5_holds_144 ?_
      refine x_lor dX5_holds_145 ?_
      refine x_lstore_n dX5_holds_146 (Nat.le_of_ble_eq_true rfl) ?_
      refine x_goto 220 dX5_holds_147 (by decide) ?_
      refine x_iinc (a4 + 1) dX5_holds_220 rfl (by rfl) ?_
      refine x_goto 10 dX5_holds_223 (by decide) ?_
      exact Wp.mask [true, true, true, false, true, false, false, false, false, false] (hrec 10 _ _ _ h _ _ rfl _ hQ)
    · rw [if_neg q12] at h
      by_cases q14 : ((v7 &&& 15)) = 1
      · rw [if_pos q14] at h
        refine x_tabIn 150 dX5_holds_97 (fun w9 => q9 (Or.inl w9)) (fun w9 => q9 (Or.inr w9)) (by rw [q14]; rfl) (by decide) ?_
        refine x_lload_n dX5_holds_150 rfl ?_
        refine x_iconst 1 dX5_holds_151 (by decide) ?_
        refine x_lshl dX5_holds_152 ?_
        refine x_iload dX5_holds_153 rfl ?_
        refine x_iload dX5_holds_155 rfl ?_
        refine x_icmp_ge 164 dX5_holds_157 (by decide) (fun q13 => ?_) (fun q13 => ?_)
        · rw [if_pos q13] at h
          refine x_iconst 0 dX5_holds_164 (by decide) ?_
          refine x_i2l dX5_holds_165 ?_
          refine x_lor dX5_holds_166 ?_
          refine x_lstore_n dX5_holds_167 (Nat.le_of_ble_eq_true rfl) ?_
          refine x_goto 220 dX5_holds_168 (by decide) ?_
          refine x_iinc (a4 + 1) dX5_holds_220 rfl (by rfl) ?_
          refine x_goto 10 dX5_holds_223 (by decide) ?_
          exact Wp.mask [true, true, true, false, true, false, false, false, false, false] (hrec 10 _ _ _ h _ _ rfl _ hQ)
        · rw [if_neg q13] at h
          refine x_iconst 1 dX5_holds_160 (by decide) ?_
          refine x_goto 165 dX5_holds_161 (by decide) ?_
          refine x_i2l dX5_holds_165 ?_
          refine x_lor dX5_holds_166 ?_
          refine x_lstore_n dX5_holds_167 (Nat.le_of_ble_eq_true rfl) ?_
          refine x_goto 220 dX5_holds_168 (by decide) ?_
          refine x_iinc (a4 + 1) dX5_holds_220 rfl (by rfl) ?_
          refine x_goto 10 dX5_holds_223 (by decide) ?_
          exact Wp.mask [true, true, true, false, true, false, false, false, false, false] (hrec 10 _ _ _ h _ _ rfl _ hQ)
      · rw [if_neg q14] at h
        by_cases q16 : ((v7 &&& 15)) = 2
        · rw [if_pos q16] at h
          refine x_tabIn 171 dX5_holds_97 (fun w9 => q9 (Or.inl w9)) (fun w9 => q9 (Or.inr w9)) (by rw [q16]; rfl) (by decide) ?_
          refine x_lload_n dX5_holds_171 rfl ?_
          refine x_iconst 1 dX5_holds_172 (by decide) ?_
          refine x_lshl dX5_holds_173 ?_
          refine x_iload dX5_holds_174 rfl ?_
          refine x_iload dX5_holds_176 rfl ?_
          refine x_icmp_le 185 dX5_holds_178 (by decide) (fun q15 => ?_) (fun q15 => ?_)
          · rw [if_pos q15] at h
            refine x_iconst 0 dX5_holds_185 (by decide) ?_
            refine x_i2l dX5_holds_186 ?_
            refine x_lor dX5_holds_187 ?_
            refine x_lstore_n dX5_holds_188 (Nat.le_of_ble_eq_true rfl) ?_
            refine x_goto 220 dX5_holds_189 (by decide) ?_
            refine x_iinc (a4 + 1) dX5_holds_220 rfl (by rfl) ?_
            refine x_goto 10 dX5_holds_223 (by decide) ?_
            exact Wp.mask [true, true, true, false, true, false, false, false, false, false] (hrec 10 _ _ _ h _ _ rfl _ hQ)
          · rw [if_neg q15] at h
            refine x_iconst 1 dX5_holds_181 (by decide) ?_
            refine x_goto 186 dX5_holds_182 (by decide) ?_
            refine x_i2l dX5_holds_186 ?_
            refine x_lor dX5_holds_187 ?_
            refine x_lstore_n dX5_holds_188 (Nat.le_of_ble_eq_true rfl) ?_
            refine x_goto 220 dX5_holds_189 (by decide) ?_
            refine x_iinc (a4 + 1) dX5_holds_220 rfl (by rfl) ?_
            refine x_goto 10 dX5_holds_223 (by decide) ?_
            exact Wp.mask [true, true, true, false, true, false, false, false, false, false] (hrec 10 _ _ _ h _ _ rfl _ hQ)
        · rw [if_neg q16] at h
          by_cases q17 : ((v7 &&& 15)) = 3
          · rw [if_pos q17] at h
            refine x_tabIn 192 dX5_holds_97 (fun w9 => q9 (Or.inl w9)) (fun w9 => q9 (Or.inr w9)) (by rw [q17]; rfl) (by decide) ?_
            refine x_lload_n dX5_holds_192 rfl ?_
            refine x_lconst 1 dX5_holds_193 (by decide) ?_
            refine x_lxor dX5_holds_194 ?_
            refine x_lstore_n dX5_holds_195 (Nat.le_of_ble_eq_true rfl) ?_
            refine x_goto 220 dX5_holds_196 (by decide) ?_
            refine x_iinc (a4 + 1) dX5_holds_220 rfl (by rfl) ?_
            refine x_goto 10 dX5_holds_223 (by decide) ?_
            exact Wp.mask [true, true, true, false, true, false, false, false, false, false] (hrec 10 _ _ _ h _ _ rfl _ hQ)
          · rw [if_neg q17] at h
            by_cases q18 : ((v7 &&& 15)) = 4
            · rw [if_pos q18] at h
              refine x_tabIn 199 dX5_holds_97 (fun w9 => q9 (Or.inl w9)) (fun w9 => q9 (Or.inr w9)) (by rw [q18]; rfl) (by decide) ?_
              refine x_lload_n dX5_holds_199 rfl ?_
              refine x_iconst 1 dX5_holds_200 (by decide) ?_
              refine x_lshr dX5_holds_201 ?_
              refine x_ldc2 dX5_holds_202 wconst_X5_45 ?_
              refine x_lload dX5_holds_205 rfl ?_
              refine x_lor dX5_holds_207 ?_
              refine x_land dX5_holds_208 ?_
              refine x_lstore_n dX5_holds_209 (Nat.le_of_ble_eq_true rfl) ?_
              refine x_goto 220 dX5_holds_210 (by decide) ?_
              refine x_iinc (a4 + 1) dX5_holds_220 rfl (by rfl) ?_
              refine x_goto 10 dX5_holds_223 (by decide) ?_
              exact Wp.mask [true, true, true, false, true, false, false, false, false, false] (hrec 10 _ _ _ h _ _ rfl _ hQ)
            · rw [if_neg q18] at h
              cases h
set_option maxHeartbeats 2000000 in
set_option maxRecDepth 20000 in
theorem t_X5_holds_226 {G : xG} {l : Launch} (hl : l.stackTraces = false) {n : Nat} {rec : Nat → List Value → xH → xO} (hrec : ∀ pc env P z, rec pc env P = some z → ∀ L st, lay_X5_holds pc env = some (L, st) → ∀ Q : xR → xH → Prop, Q z.1 z.2 → Wp G l 3 mX5_holds pc L st P Q) {a0 a1 a2 a4} {P : xH} {z : xR × xH} (h : b_X5_holds_226 n rec a0 a1 a2 a4 P = some z) {Q : xR → xH → Prop} (hQ : Q z.1 z.2) : Wp G l 3 mX5_holds 226 [some (.ref a0), some (.int a1), some (.long a2), none, some (.int a4), none, none, none, none, none] [] P Q := by
  unfold b_X5_holds_226 at h
  refine x_lload_n dX5_holds_226 rfl ?_
  refine x_lconst 1 dX5_holds_227 (by decide) ?_
  refine x_land dX5_holds_228 ?_
  refine x_lconst 0 dX5_holds_229 (by decide) ?_
  refine x_lcmp dX5_holds_230 ?_
  refine x_if_eq 238 dX5_holds_231 (by decide) (fun q1 => ?_) (fun q1 => ?_)
  · rw [if_pos q1] at h
    refine x_iconst 0 dX5_holds_238 (by decide) ?_
    cases h
    exact x_iret .boolean rfl rfl dX5_holds_239 hQ
  · rw [if_neg q1] at h
    refine x_iconst 1 dX5_holds_234 (by decide) ?_
    refine x_goto 239 dX5_holds_235 (by decide) ?_
    cases h
    exact x_iret .boolean rfl rfl dX5_holds_239 hQ
theorem s_X5_holds {G : xG} {l : Launch} (hl : l.stackTraces = false) : ∀ n pc env P z, f_X5_holds n pc env P = some z → ∀ L st, lay_X5_holds pc env = some (L, st) → ∀ Q : xR → xH → Prop, Q z.1 z.2 → Wp G l 3 mX5_holds pc L st P Q := by
  intro n
  induction n with
  | zero => intro pc env P z h; cases h
  | succ n ih =>
    intro pc env P z h L st hlay Q hQ
    unfold f_X5_holds at h
    split at h
    · cases hlay
      exact t_X5_holds_0 hl ih h hQ
    · cases hlay
      exact t_X5_holds_10 hl ih h hQ
    · cases hlay
      exact t_X5_holds_68 hl ih h hQ
    · cases hlay
      exact t_X5_holds_226 hl ih h hQ
    · cases h
theorem c_X5_holds {G : xG} {l : Launch} (hl : l.stackTraces = false) {n : Nat} {as : List Value} {P : xH} {z : xR × xH} (h : f_X5_holds n 0 as P = some z) : Ct G l 3 mX5_holds as P (fun r P1 => (r, P1) = z) := by
  cases n with
  | zero => cases h
  | succ n =>
    unfold f_X5_holds at h
    split at h
    · exact Ct.of hl (by decide +kernel) wc_X5_holds (Nat.le_of_ble_eq_true rfl) (t_X5_holds_0 hl (s_X5_holds hl _) h rfl)
    all_goals first | (cases h; done) | (rename_i q9 _; exact absurd q9 (by decide)) | (rename_i q9; exact absurd q9 (by decide)) | contradiction
/-! QuakeNet$Rules.mark()I -/
def b_X5_mark_0 (n : Nat) (rec : Nat → List Value → xH → xO) (a0 : Nat) (P : xH) : xO :=
  rec 4 [.ref a0, .int 0, .int 0] P
def b_X5_mark_4 (n : Nat) (rec : Nat → List Value → xH → xO) (a0 : Nat) (a1 : Int32) (a2 : Int32) (P : xH) : xO :=
  (rI P a0 5 3).bind fun v1 =>
  if v1 ≤ a2 then
    some (.inl (some (.int a1)), P)
  else
    (rA P a0 5 0).bind fun v3 =>
    (aI P v3 a2).bind fun v5 =>
    if ¬ v5 = 0 then
      rec 4 [.ref a0, .int a1, .int ((a2 + 1))] P
    else
      (kO P a0 5).bind fun _ =>
      (f_X5_holds n 0 [.ref a0, .int a2] P).bind fun r8 => xI r8 fun v10 P7 =>
      if v10 = 0 then
        rec 4 [.ref a0, .int a1, .int ((a2 + 1))] P7
      else
        (rA P7 a0 5 1).bind fun v12 =>
        (aI P7 v12 a2).bind fun v14 =>
        rec 4 [.ref a0, .int ((a1 + v14)), .int ((a2 + 1))] P7
def lay_X5_mark : Nat → List Value → Option (xL × List Value)
  | 0, [a0] => some ([some a0, none, none], [])
  | 4, [a0, a1, a2] => some ([some a0, some a1, some a2], [])
  | _, _ => none
def f_X5_mark : Nat → Nat → List Value → xH → xO
  | 0 => fun _ _ _ => none
  | n + 1 => fun pc env P => match pc, env with
    | 0, [.ref a0] => b_X5_mark_0 n (f_X5_mark n) a0 P
    | 4, [.ref a0, .int a1, .int a2] => b_X5_mark_4 n (f_X5_mark n) a0 a1 a2 P
    | _, _ => none
set_option maxHeartbeats 2000000 in
set_option maxRecDepth 20000 in
theorem t_X5_mark_0 {G : xG} {l : Launch} (hl : l.stackTraces = false) {n : Nat} {rec : Nat → List Value → xH → xO} (hrec : ∀ pc env P z, rec pc env P = some z → ∀ L st, lay_X5_mark pc env = some (L, st) → ∀ Q : xR → xH → Prop, Q z.1 z.2 → Wp G l 4 mX5_mark pc L st P Q) {a0} {P : xH} {z : xR × xH} (h : b_X5_mark_0 n rec a0 P = some z) {Q : xR → xH → Prop} (hQ : Q z.1 z.2) : Wp G l 4 mX5_mark 0 [some (.ref a0), none, none] [] P Q := by
  unfold b_X5_mark_0 at h
  refine x_iconst 0 dX5_mark_0 (by decide) ?_
  refine x_istore_n dX5_mark_1 (Nat.le_of_ble_eq_true rfl) ?_
  refine x_iconst 0 dX5_mark_2 (by decide) ?_
  refine x_istore_n dX5_mark_3 (Nat.le_of_ble_eq_true rfl) ?_
  exact Wp.mask [true, true, true] (hrec 4 _ _ _ h _ _ rfl _ hQ)
set_option maxHeartbeats 2000000 in
set_option maxRecDepth 20000 in
theorem t_X5_mark_4 {G : xG} {l : Launch} (hl : l.stackTraces = false) {n : Nat} {rec : Nat → List Value → xH → xO} (hrec : ∀ pc env P z, rec pc env P = some z → ∀ L st, lay_X5_mark pc env = some (L, st) → ∀ Q : xR → xH → Prop, Q z.1 z.2 → Wp G l 4 mX5_mark pc L st P Q) {a0 a1 a2} {P : xH} {z : xR × xH} (h : b_X5_mark_4 n rec a0 a1 a2 P = some z) {Q : xR → xH → Prop} (hQ : Q z.1 z.2) : Wp G l 4 mX5_mark 4 [some (.ref a0), some (.int a1), some (.int a2)] [] P Q := by
  unfold b_X5_mark_4 at h
  refine x_iload_n dX5_mark_4 rfl ?_
  refine x_aload_nr dX5_mark_5 rfl ?_
  obtain ⟨v1, e2, h⟩ := Option.bind_eq_some_iff.mp h
  refine k_rI e2 dX5_mark_6 f_X5_25 ?_
  refine x_icmp_ge 44 dX5_mark_9 (by decide) (fun q18 => ?_) (fun q18 => ?_)
  · rw [if_pos q18] at h
    refine x_iload_n dX5_mark_44 rfl ?_
    cases h
    exact x_iret .int rfl rfl dX5_mark_45 hQ
  · rw [if_neg q18] at h
    refine x_aload_nr dX5_mark_12 rfl ?_
    obtain ⟨v3, e4, h⟩ := Option.bind_eq_some_iff.mp h
    refine k_rA e4 dX5_mark_13 f_X5_9 ?_
    refine x_iload_n dX5_mark_16 rfl ?_
    obtain ⟨v5, e6, h⟩ := Option.bind_eq_some_iff.mp h
    refine k_aI e6 dX5_mark_17 ?_
    refine x_if_ne 38 dX5_mark_18 (by decide) (fun q17 => ?_) (fun q17 => ?_)
    · rw [if_pos q17] at h
      refine x_iinc (a2 + 1) dX5_mark_38 rfl (by rfl) ?_
      refine x_goto 4 dX5_mark_41 (by decide) ?_
      exact Wp.mask [true, true, true] (hrec 4 _ _ _ h _ _ rfl _ hQ)
    · rw [if_neg (fun z9 => z9 q17)] at h
      refine x_aload_nr dX5_mark_21 rfl ?_
      refine x_iload_n dX5_mark_22 rfl ?_
      obtain ⟨_, e11, h⟩ := Option.bind_eq_some_iff.mp h
      obtain ⟨fse11, e11⟩ := kO_ok e11
      obtain ⟨r8, e9, h⟩ := Option.bind_eq_some_iff.mp h
      replace h := xI_ok h
      obtain ⟨v10, P7, rfl, h⟩ := h
      refine x_callV (c_X5_holds hl e9) dX5_mark_23 cw_X5_holds wl_X5_38 wi_X5_holds wse_X5_holds rfl e11 (by decide) rfl (by omega) (by decide) rfl (Nat.le_of_ble_eq_true rfl) rfl (fun v9 P9 hq9 => ?_) (fun i9 P9 hq9 => by cases hq9)
      cases hq9
      refine x_if_eq 38 dX5_mark_26 (by decide) (fun q16 => ?_) (fun q16 => ?_)
      · rw [if_pos q16] at h
        refine x_iinc (a2 + 1) dX5_mark_38 rfl (by rfl) ?_
        refine x_goto 4 dX5_mark_41 (by decide) ?_
        exact Wp.mask [true, true, true] (hrec 4 _ _ _ h _ _ rfl _ hQ)
      · rw [if_neg q16] at h
        refine x_iload_n dX5_mark_29 rfl ?_
        refine x_aload_nr dX5_mark_30 rfl ?_
        obtain ⟨v12, e13, h⟩ := Option.bind_eq_some_iff.mp h
        refine k_rA e13 dX5_mark_31 f_X5_13 ?_
        refine x_iload_n dX5_mark_34 rfl ?_
        obtain ⟨v14, e15, h⟩ := Option.bind_eq_some_iff.mp h
        refine k_aI e15 dX5_mark_35 ?_
        refine x_iadd dX5_mark_36 ?_
        refine x_istore_n dX5_mark_37 (Nat.le_of_ble_eq_true rfl) ?_
        refine x_iinc (a2 + 1) dX5_mark_38 rfl (by rfl) ?_
        refine x_goto 4 dX5_mark_41 (by decide) ?_
        exact Wp.mask [true, true, true] (hrec 4 _ _ _ h _ _ rfl _ hQ)
theorem s_X5_mark {G : xG} {l : Launch} (hl : l.stackTraces = false) : ∀ n pc env P z, f_X5_mark n pc env P = some z → ∀ L st, lay_X5_mark pc env = some (L, st) → ∀ Q : xR → xH → Prop, Q z.1 z.2 → Wp G l 4 mX5_mark pc L st P Q := by
  intro n
  induction n with
  | zero => intro pc env P z h; cases h
  | succ n ih =>
    intro pc env P z h L st hlay Q hQ
    unfold f_X5_mark at h
    split at h
    · cases hlay
      exact t_X5_mark_0 hl ih h hQ
    · cases hlay
      exact t_X5_mark_4 hl ih h hQ
    · cases h
theorem c_X5_mark {G : xG} {l : Launch} (hl : l.stackTraces = false) {n : Nat} {as : List Value} {P : xH} {z : xR × xH} (h : f_X5_mark n 0 as P = some z) : Ct G l 4 mX5_mark as P (fun r P1 => (r, P1) = z) := by
  cases n with
  | zero => cases h
  | succ n =>
    unfold f_X5_mark at h
    split at h
    · exact Ct.of hl (by decide +kernel) wc_X5_mark (Nat.le_of_ble_eq_true rfl) (t_X5_mark_0 hl (s_X5_mark hl _) h rfl)
    all_goals first | (cases h; done) | (rename_i q9 _; exact absurd q9 (by decide)) | (rename_i q9; exact absurd q9 (by decide)) | contradiction
/-! QuakeNet$Net.leastOn(I)I -/
def b_X1_leastOn_0 (n : Nat) (rec : Nat → List Value → xH → xO) (a0 : Nat) (a1 : Int32) (P : xH) : xO :=
  rec 7 [.ref a0, .int a1, .int ((-1)), .int 0, .int 0] P
def b_X1_leastOn_7 (n : Nat) (rec : Nat → List Value → xH → xO) (a0 : Nat) (a1 : Int32) (a2 : Int32) (a3 : Int32) (a4 : Int32) (P : xH) : xO :=
  (rI P a0 1 4).bind fun v1 =>
  if v1 ≤ a4 then
    some (.inl (some (.int a2)), P)
  else
    (kO P a0 1).bind fun _ =>
    (f_X1_carries n 0 [.ref a0, .int a1, .int a4] P).bind fun r4 => xI r4 fun v6 P3 =>
    if v6 = 0 then
      rec 7 [.ref a0, .int a1, .int a2, .int a3, .int ((a4 + 1))] P3
    else
      (kO P3 a0 1).bind fun _ =>
      (f_X1_loadFacts n 0 [.ref a0, .int a1, .int a4] P3).bind fun r9 => xU r9 fun P8 =>
      (rA P8 a0 1 1).bind fun v12 =>
      (kO P8 v12 5).bind fun _ =>
      (f_X5_mark n 0 [.ref v12] P8).bind fun r15 => xI r15 fun v17 P14 =>
      if a2 = ((-1)) then
        rec 7 [.ref a0, .int a1, .int a4, .int v17, .int ((a4 + 1))] P14
      else
        if a3 < v17 then
          rec 7 [.ref a0, .int a1, .int a2, .int a3, .int ((a4 + 1))] P14
        else
          rec 7 [.ref a0, .int a1, .int a4, .int v17, .int ((a4 + 1))] P14
def lay_X1_leastOn : Nat → List Value → Option (xL × List Value)
  | 0, [a0, a1] => some ([some a0, some a1, none, none, none, none], [])
  | 7, [a0, a1, a2, a3, a4] => some ([some a0, some a1, some a2, some a3, some a4, none], [])
  | _, _ => none
def f_X1_leastOn : Nat → Nat → List Value → xH → xO
  | 0 => fun _ _ _ => none
  | n + 1 => fun pc env P => match pc, env with
    | 0, [.ref a0, .int a1] => b_X1_leastOn_0 n (f_X1_leastOn n) a0 a1 P
    | 7, [.ref a0, .int a1, .int a2, .int a3, .int a4] => b_X1_leastOn_7 n (f_X1_leastOn n) a0 a1 a2 a3 a4 P
    | _, _ => none
set_option maxHeartbeats 2000000 in
set_option maxRecDepth 20000 in
theorem t_X1_leastOn_0 {G : xG} {l : Launch} (hl : l.stackTraces = false) {n : Nat} {rec : Nat → List Value → xH → xO} (hrec : ∀ pc env P z, rec pc env P = some z → ∀ L st, lay_X1_leastOn pc env = some (L, st) → ∀ Q : xR → xH → Prop, Q z.1 z.2 → Wp G l 5 mX1_leastOn pc L st P Q) {a0 a1} {P : xH} {z : xR × xH} (h : b_X1_leastOn_0 n rec a0 a1 P = some z) {Q : xR → xH → Prop} (hQ : Q z.1 z.2) : Wp G l 5 mX1_leastOn 0 [some (.ref a0), some (.int a1), none, none, none, none] [] P Q := by
  unfold b_X1_leastOn_0 at h
  refine x_iconst (-1) dX1_leastOn_0 (by decide) ?_
  refine x_istore_n dX1_leastOn_1 (Nat.le_of_ble_eq_true rfl) ?_
  refine x_iconst 0 dX1_leastOn_2 (by decide) ?_
  refine x_istore_n dX1_leastOn_3 (Nat.le_of_ble_eq_true rfl) ?_
  refine x_iconst 0 dX1_leastOn_4 (by decide) ?_
  refine x_istore dX1_leastOn_5 (Nat.le_of_ble_eq_true rfl) ?_
  exact Wp.mask [true, true, true, true, true, false] (hrec 7 _ _ _ h _ _ rfl _ hQ)
set_option maxHeartbeats 2000000 in
set_option maxRecDepth 20000 in
theorem t_X1_leastOn_7 {G : xG} {l : Launch} (hl : l.stackTraces = false) {n : Nat} {rec : Nat → List Value → xH → xO} (hrec : ∀ pc env P z, rec pc env P = some z → ∀ L st, lay_X1_leastOn pc env = some (L, st) → ∀ Q : xR → xH → Prop, Q z.1 z.2 → Wp G l 5 mX1_leastOn pc L st P Q) {a0 a1 a2 a3 a4} {P : xH} {z : xR × xH} (h : b_X1_leastOn_7 n rec a0 a1 a2 a3 a4 P = some z) {Q : xR → xH → Prop} (hQ : Q z.1 z.2) : Wp G l 5 mX1_leastOn 7 [some (.ref a0), some (.int a1), some (.int a2), some (.int a3), some (.int a4), none] [] P Q := by
  unfold b_X1_leastOn_7 at h
  refine x_iload dX1_leastOn_7 rfl ?_
  refine x_aload_nr dX1_leastOn_9 rfl ?_
  obtain ⟨v1, e2, h⟩ := Option.bind_eq_some_iff.mp h
  refine k_rI e2 dX1_leastOn_10 f_X1_63 ?_
  refine x_icmp_ge 65 dX1_leastOn_13 (by decide) (fun q22 => ?_) (fun q22 => ?_)
  · rw [if_pos q22] at h
    refine x_iload_n dX1_leastOn_65 rfl ?_
    cases h
    exact x_iret .int rfl rfl dX1_leastOn_66 hQ
  · rw [if_neg q22] at h
    refine x_aload_nr dX1_leastOn_16 rfl ?_
    refine x_iload_n dX1_leastOn_17 rfl ?_
    refine x_iload dX1_leastOn_18 rfl ?_
    obtain ⟨_, e7, h⟩ := Option.bind_eq_some_iff.mp h
    obtain ⟨fse7, e7⟩ := kO_ok e7
    obtain ⟨r4, e5, h⟩ := Option.bind_eq_some_iff.mp h
    replace h := xI_ok h
    obtain ⟨v6, P3, rfl, h⟩ := h
    refine x_callV (c_X1_carries hl e5) dX1_leastOn_20 cw_X1_carries wl_X1_178 wi_X1_carries wse_X1_carries rfl e7 (by decide) rfl (by omega) (by decide) rfl (Nat.le_of_ble_eq_true rfl) rfl (fun v9 P9 hq9 => ?_) (fun i9 P9 hq9 => by cases hq9)
    cases hq9
    refine x_if_eq 59 dX1_leastOn_23 (by decide) (fun q21 => ?_) (fun q21 => ?_)
    · rw [if_pos q21] at h
      refine x_iinc (a4 + 1) dX1_leastOn_59 rfl (by rfl) ?_
      refine x_goto 7 dX1_leastOn_62 (by decide) ?_
      exact Wp.mask [true, true, true, true, true, false] (hrec 7 _ _ _ h _ _ rfl _ hQ)
    · rw [if_neg q21] at h
      refine x_aload_nr dX1_leastOn_26 rfl ?_
      refine x_iload_n dX1_leastOn_27 rfl ?_
      refine x_iload dX1_leastOn_28 rfl ?_
      obtain ⟨_, e11, h⟩ := Option.bind_eq_some_iff.mp h
      obtain ⟨fse11, e11⟩ := kO_ok e11
      obtain ⟨r9, e10, h⟩ := Option.bind_eq_some_iff.mp h
      replace h := xU_ok h
      obtain ⟨P8, rfl, h⟩ := h
      refine x_callV (c_X1_loadFacts hl e10) dX1_leastOn_30 cw_X1_loadFacts wl_X1_145 wi_X1_loadFacts wse_X1_loadFacts rfl e11 (by decide) rfl (by omega) (by decide) rfl (Nat.le_of_ble_eq_true rfl) rfl (fun v9 P9 hq9 => ?_) (fun i9 P9 hq9 => by cases hq9)
      cases hq9
      refine x_aload_nr dX1_leastOn_33 rfl ?_
      obtain ⟨v12, e13, h⟩ := Option.bind_eq_some_iff.mp h
      refine k_rA e13 dX1_leastOn_34 f_X1_46 ?_
      obtain ⟨_, e18, h⟩ := Option.bind_eq_some_iff.mp h
      obtain ⟨fse18, e18⟩ := kO_ok e18
      obtain ⟨r15, e16, h⟩ := Option.bind_eq_some_iff.mp h
      replace h := xI_ok h
      obtain ⟨v17, P14, rfl, h⟩ := h
      refine x_callV (c_X5_mark hl e16) dX1_leastOn_37 cw_X5_mark wl_X1_148 wi_X5_mark wse_X5_mark rfl e18 (by decide) rfl (by omega) (by decide) rfl (Nat.le_of_ble_eq_true rfl) rfl (fun v9 P9 hq9 => ?_) (fun i9 P9 hq9 => by cases hq9)
      cases hq9
      refine x_istore dX1_leastOn_40 (Nat.le_of_ble_eq_true rfl) ?_
      refine x_iload_n dX1_leastOn_42 rfl ?_
      refine x_iconst (-1) dX1_leastOn_43 (by decide) ?_
      refine x_icmp_eq 53 dX1_leastOn_44 (by decide) (fun q20 => ?_) (fun q20 => ?_)
      · rw [if_pos q20] at h
        refine x_iload dX1_leastOn_53 rfl ?_
        refine x_istore_n dX1_leastOn_55 (Nat.le_of_ble_eq_true rfl) ?_
        refine x_iload dX1_leastOn_56 rfl ?_
        refine x_istore_n dX1_leastOn_58 (Nat.le_of_ble_eq_true rfl) ?_
        refine x_iinc (a4 + 1) dX1_leastOn_59 rfl (by rfl) ?_
        refine x_goto 7 dX1_leastOn_62 (by decide) ?_
        exact Wp.mask [true, true, true, true, true, false] (hrec 7 _ _ _ h _ _ rfl _ hQ)
      · rw [if_neg q20] at h
        refine x_iload dX1_leastOn_47 rfl ?_
        refine x_iload_n dX1_leastOn_49 rfl ?_
        refine x_icmp_gt 59 dX1_leastOn_50 (by decide) (fun q19 => ?_) (fun q19 => ?_)
        · rw [if_pos q19] at h
          refine x_iinc (a4 + 1) dX1_leastOn_59 rfl (by rfl) ?_
          refine x_goto 7 dX1_leastOn_62 (by decide) ?_
          exact Wp.mask [true, true, true, true, true, false] (hrec 7 _ _ _ h _ _ rfl _ hQ)
        · rw [if_neg q19] at h
          refine x_iload dX1_leastOn_53 rfl ?_
          refine x_istore_n dX1_leastOn_55 (Nat.le_of_ble_eq_true rfl) ?_
          refine x_iload dX1_leastOn_56 rfl ?_
          refine x_istore_n dX1_leastOn_58 (Nat.le_of_ble_eq_true rfl) ?_
          refine x_iinc (a4 + 1) dX1_leastOn_59 rfl (by rfl) ?_
          refine x_goto 7 dX1_leastOn_62 (by decide) ?_
          exact Wp.mask [true, true, true, true, true, false] (hrec 7 _ _ _ h _ _ rfl _ hQ)
theorem s_X1_leastOn {G : xG} {l : Launch} (hl : l.stackTraces = false) : ∀ n pc env P z, f_X1_leastOn n pc env P = some z → ∀ L st, lay_X1_leastOn pc env = some (L, st) → ∀ Q : xR → xH → Prop, Q z.1 z.2 → Wp G l 5 mX1_leastOn pc L st P Q := by
  intro n
  induction n with
  | zero => intro pc env P z h; cases h
  | succ n ih =>
    intro pc env P z h L st hlay Q hQ
    unfold f_X1_leastOn at h
    split at h
    · cases hlay
      exact t_X1_leastOn_0 hl ih h hQ
    · cases hlay
      exact t_X1_leastOn_7 hl ih h hQ
    · cases h
theorem c_X1_leastOn {G : xG} {l : Launch} (hl : l.stackTraces = false) {n : Nat} {as : List Value} {P : xH} {z : xR × xH} (h : f_X1_leastOn n 0 as P = some z) : Ct G l 5 mX1_leastOn as P (fun r P1 => (r, P1) = z) := by
  cases n with
  | zero => cases h
  | succ n =>
    unfold f_X1_leastOn at h
    split at h
    · exact Ct.of hl (by decide +kernel) wc_X1_leastOn (Nat.le_of_ble_eq_true rfl) (t_X1_leastOn_0 hl (s_X1_leastOn hl _) h rfl)
    all_goals first | (cases h; done) | (rename_i q9 _; exact absurd q9 (by decide)) | (rename_i q9; exact absurd q9 (by decide)) | contradiction
/-! QuakeNet$Net.put(IIII)V -/
def b_X1_put_0 (n : Nat) (rec : Nat → List Value → xH → xO) (a0 : Nat) (a1 : Int32) (a2 : Int32) (a3 : Int32) (a4 : Int32) (P : xH) : xO :=
  (f_X1_cell n 0 [.int a1, .int a2] P).bind fun r2 => xI r2 fun v4 P1 =>
  (rA P1 a0 1 7).bind fun v5 =>
  (sJ P1 v5 v4 0).bind fun P7 =>
  if a4 = ((-1)) then
    rec 69 [.ref a0, .int a1, .int a2, .int a3, .int a4, .int v4, .int 0] P7
  else
    (rA P7 a0 1 6).bind fun v9 =>
    (aA P7 v9 1).bind fun v11 =>
    (f_X1_cell n 0 [.int a4, .int a2] P7).bind fun r14 => xI r14 fun v16 P13 =>
    (aI P13 v11 v16).bind fun v17 =>
    (rA P13 a0 1 7).bind fun v19 =>
    (rA P13 a0 1 7).bind fun v21 =>
    (f_X1_cell n 0 [.int a4, .int a2] P13).bind fun r24 => xI r24 fun v26 P23 =>
    (aJ P23 v21 v26).bind fun v27 =>
    (sJ P23 v19 v4 ((v27 ||| ((((Int32.toInt64 a4)) <<< (Int32.toInt64 ((4 * v17)) &&& 63)))))).bind fun P29 =>
    rec 69 [.ref a0, .int a1, .int a2, .int a3, .int a4, .int v4, .int ((v17 + 1))] P29
def b_X1_put_69 (n : Nat) (rec : Nat → List Value → xH → xO) (a0 : Nat) (a1 : Int32) (a2 : Int32) (a3 : Int32) (a4 : Int32) (a5 : Int32) (a6 : Int32) (P : xH) : xO :=
  (rA P a0 1 6).bind fun v1 =>
  (aA P v1 0).bind fun v3 =>
  (sI P v3 a5 a3).bind fun P5 =>
  (rA P5 a0 1 6).bind fun v7 =>
  (aA P5 v7 1).bind fun v9 =>
  (sI P5 v9 a5 a6).bind fun P11 =>
  (rA P11 a0 1 6).bind fun v13 =>
  (aA P11 v13 2).bind fun v15 =>
  (sI P11 v15 a5 a4).bind fun P17 =>
  (rA P17 a0 1 6).bind fun v19 =>
  (aA P17 v19 3).bind fun v21 =>
  (rI P17 a0 1 2).bind fun v23 =>
  (sI P17 v21 a5 v23).bind fun P25 =>
  (rA P25 a0 1 8).bind fun v27 =>
  (aI P25 v27 a1).bind fun v29 =>
  (sI P25 v27 a1 ((v29 ||| ((1 <<< (a2 &&& 31)))))).bind fun P31 =>
  (rA P31 a0 1 5).bind fun v33 =>
  (aA P31 v33 2).bind fun v35 =>
  (aI P31 v35 a1).bind fun v37 =>
  (sI P31 v35 a1 ((v37 + 1))).bind fun P39 =>
  (rA P39 a0 1 9).bind fun v41 =>
  (aI P39 v41 a2).bind fun v43 =>
  (sI P39 v41 a2 ((v43 + 1))).bind fun P45 =>
  if ¬ a1 = 0 then
    some (.inl none, P45)
  else
    (rA P45 a0 1 10).bind fun v47 =>
    (aI P45 v47 a2).bind fun v49 =>
    if ¬ v49 = ((-1)) then
      some (.inl none, P45)
    else
      (rA P45 a0 1 10).bind fun v51 =>
      (rI P45 a0 1 2).bind fun v53 =>
      (sI P45 v51 a2 v53).bind fun P55 =>
      (rA P55 a0 1 11).bind fun v57 =>
      (sI P55 v57 a2 a6).bind fun P59 =>
      (rA P59 a0 1 12).bind fun v61 =>
      (rA P59 a0 1 7).bind fun v63 =>
      (aJ P59 v63 a5).bind fun v65 =>
      (sJ P59 v61 a2 v65).bind fun P67 =>
      some (.inl none, P67)
def lay_X1_put : Nat → List Value → Option (xL × List Value)
  | 0, [a0, a1, a2, a3, a4] => some ([some a0, some a1, some a2, some a3, some a4, none, none], [])
  | 69, [a0, a1, a2, a3, a4, a5, a6] => some ([some a0, some a1, some a2, some a3, some a4, some a5, some a6], [])
  | _, _ => none
def f_X1_put : Nat → Nat → List Value → xH → xO
  | 0 => fun _ _ _ => none
  | n + 1 => fun pc env P => match pc, env with
    | 0, [.ref a0, .int a1, .int a2, .int a3, .int a4] => b_X1_put_0 n (f_X1_put n) a0 a1 a2 a3 a4 P
    | 69, [.ref a0, .int a1, .int a2, .int a3, .int a4, .int a5, .int a6] => b_X1_put_69 n (f_X1_put n) a0 a1 a2 a3 a4 a5 a6 P
    | _, _ => none
set_option maxHeartbeats 2000000 in
set_option maxRecDepth 20000 in
theorem t_X1_put_0 {G : xG} {l : Launch} (hl : l.stackTraces = false) {n : Nat} {rec : Nat → List Value → xH → xO} (hrec : ∀ pc env P z, rec pc env P = some z → ∀ L st, lay_X1_put pc env = some (L, st) → ∀ Q : xR → xH → Prop, Q z.1 z.2 → Wp G l 4 mX1_put pc L st P Q) {a0 a1 a2 a3 a4} {P : xH} {z : xR × xH} (h : b_X1_put_0 n rec a0 a1 a2 a3 a4 P = some z) {Q : xR → xH → Prop} (hQ : Q z.1 z.2) : Wp G l 4 mX1_put 0 [some (.ref a0), some (.int a1), some (.int a2), some (.int a3), some (.int a4), none, none] [] P Q := by
  unfold b_X1_put_0 at h
  refine x_iload_n dX1_put_0 rfl ?_
  refine x_iload_n dX1_put_1 rfl ?_
  obtain ⟨r2, e3, h⟩ := Option.bind_eq_some_iff.mp h
  replace h := xI_ok h
  obtain ⟨v4, P1, rfl, h⟩ := h
  refine x_callS (c_X1_cell hl e3) dX1_put_2 cw_X1_cell wl_X1_164 ws_X1_cell rfl (by omega) (by decide) rfl (Nat.le_of_ble_eq_true rfl) rfl (fun v9 P9 hq9 => ?_) (fun i9 P9 hq9 => by cases hq9)
  cases hq9
  refine x_istore dX1_put_5 (Nat.le_of_ble_eq_true rfl) ?_
  refine x_iconst 0 dX1_put_7 (by decide) ?_
  refine x_istore dX1_put_8 (Nat.le_of_ble_eq_true rfl) ?_
  refine x_aload_nr dX1_put_10 rfl ?_
  obtain ⟨v5, e6, h⟩ := Option.bind_eq_some_iff.mp h
  refine k_rA e6 dX1_put_11 f_X1_19 ?_
  refine x_iload dX1_put_14 rfl ?_
  refine x_lconst 0 dX1_put_16 (by decide) ?_
  obtain ⟨P7, e8, h⟩ := Option.bind_eq_some_iff.mp h
  refine k_sJ e8 dX1_put_17 ?_
  refine x_iload dX1_put_18 rfl ?_
  refine x_iconst (-1) dX1_put_20 (by decide) ?_
  refine x_icmp_eq 69 dX1_put_21 (by decide) (fun q31 => ?_) (fun q31 => ?_)
  · rw [if_pos q31] at h
    exact Wp.mask [true, true, true, true, true, true, true] (hrec 69 _ _ _ h _ _ rfl _ hQ)
  · rw [if_neg q31] at h
    refine x_aload_nr dX1_put_24 rfl ?_
    obtain ⟨v9, e10, h⟩ := Option.bind_eq_some_iff.mp h
    refine k_rA e10 dX1_put_25 f_X1_16 ?_
    refine x_iconst 1 dX1_put_28 (by decide) ?_
    obtain ⟨v11, e12, h⟩ := Option.bind_eq_some_iff.mp h
    refine k_aA e12 dX1_put_29 ?_
    refine x_iload dX1_put_30 rfl ?_
    refine x_iload_n dX1_put_32 rfl ?_
    obtain ⟨r14, e15, h⟩ := Option.bind_eq_some_iff.mp h
    replace h := xI_ok h
    obtain ⟨v16, P13, rfl, h⟩ := h
    refine x_callS (c_X1_cell hl e15) dX1_put_33 cw_X1_cell wl_X1_164 ws_X1_cell rfl (by omega) (by decide) rfl (Nat.le_of_ble_eq_true rfl) rfl (fun v9 P9 hq9 => ?_) (fun i9 P9 hq9 => by cases hq9)
    cases hq9
    obtain ⟨v17, e18, h⟩ := Option.bind_eq_some_iff.mp h
    refine k_aI e18 dX1_put_36 ?_
    refine x_istore dX1_put_37 (Nat.le_of_ble_eq_true rfl) ?_
    refine x_aload_nr dX1_put_39 rfl ?_
    obtain ⟨v19, e20, h⟩ := Option.bind_eq_some_iff.mp h
    refine k_rA e20 dX1_put_40 f_X1_19 ?_
    refine x_iload dX1_put_43 rfl ?_
    refine x_aload_nr dX1_put_45 rfl ?_
    obtain ⟨v21, e22, h⟩ := Option.bind_eq_some_iff.mp h
    refine k_rA e22 dX1_put_46 f_X1_19 ?_
    refine x_iload dX1_put_49 rfl ?_
    refine x_iload_n dX1_put_51 rfl ?_
    obtain ⟨r24, e25, h⟩ := Option.bind_eq_some_iff.mp h
    replace h := xI_ok h
    obtain ⟨v26, P23, rfl, h⟩ := h
    refine x_callS (c_X1_cell hl e25) dX1_put_52 cw_X1_cell wl_X1_164 ws_X1_cell rfl (by omega) (by decide) rfl (Nat.le_of_ble_eq_true rfl) rfl (fun v9 P9 hq9 => ?_) (fun i9 P9 hq9 => by cases hq9)
    cases hq9
    obtain ⟨v27, e28, h⟩ := Option.bind_eq_some_iff.mp h
    refine k_aJ e28 dX1_put_55 ?_
    refine x_iload dX1_put_56 rfl ?_
    refine x_i2l dX1_put_58 ?_
    refine x_iconst 4 dX1_put_59 (by decide) ?_
    refine x_iload dX1_put_60 rfl ?_
    refine x_imul dX1_put_62 ?_
    refine x_lshl dX1_put_63 ?_
    refine x_lor dX1_put_64 ?_
    obtain ⟨P29, e30, h⟩ := Option.bind_eq_some_iff.mp h
    refine k_sJ e30 dX1_put_65 ?_
    refine x_iinc (v17 + 1) dX1_put_66 rfl (by rfl) ?_
    exact Wp.mask [true, true, true, true, true, true, true] (hrec 69 _ _ _ h _ _ rfl _ hQ)
set_option maxHeartbeats 2000000 in
set_option maxRecDepth 20000 in
theorem t_X1_put_69 {G : xG} {l : Launch} (hl : l.stackTraces = false) {n : Nat} {rec : Nat → List Value → xH → xO} (hrec : ∀ pc env P z, rec pc env P = some z → ∀ L st, lay_X1_put pc env = some (L, st) → ∀ Q : xR → xH → Prop, Q z.1 z.2 → Wp G l 4 mX1_put pc L st P Q) {a0 a1 a2 a3 a4 a5 a6} {P : xH} {z : xR × xH} (h : b_X1_put_69 n rec a0 a1 a2 a3 a4 a5 a6 P = some z) {Q : xR → xH → Prop} (hQ : Q z.1 z.2) : Wp G l 4 mX1_put 69 [some (.ref a0), some (.int a1), some (.int a2), some (.int a3), some (.int a4), some (.int a5), some (.int a6)] [] P Q := by
  unfold b_X1_put_69 at h
  refine x_aload_nr dX1_put_69 rfl ?_
  obtain ⟨v1, e2, h⟩ := Option.bind_eq_some_iff.mp h
  refine k_rA e2 dX1_put_70 f_X1_16 ?_
  refine x_iconst 0 dX1_put_73 (by decide) ?_
  obtain ⟨v3, e4, h⟩ := Option.bind_eq_some_iff.mp h
  refine k_aA e4 dX1_put_74 ?_
  refine x_iload dX1_put_75 rfl ?_
  refine x_iload_n dX1_put_77 rfl ?_
  obtain ⟨P5, e6, h⟩ := Option.bind_eq_some_iff.mp h
  refine k_sI e6 dX1_put_78 ?_
  refine x_aload_nr dX1_put_79 rfl ?_
  obtain ⟨v7, e8, h⟩ := Option.bind_eq_some_iff.mp h
  refine k_rA e8 dX1_put_80 f_X1_16 ?_
  refine x_iconst 1 dX1_put_83 (by decide) ?_
  obtain ⟨v9, e10, h⟩ := Option.bind_eq_some_iff.mp h
  refine k_aA e10 dX1_put_84 ?_
  refine x_iload dX1_put_85 rfl ?_
  refine x_iload dX1_put_87 rfl ?_
  obtain ⟨P11, e12, h⟩ := Option.bind_eq_some_iff.mp h
  refine k_sI e12 dX1_put_89 ?_
  refine x_aload_nr dX1_put_90 rfl ?_
  obtain ⟨v13, e14, h⟩ := Option.bind_eq_some_iff.mp h
  refine k_rA e14 dX1_put_91 f_X1_16 ?_
  refine x_iconst 2 dX1_put_94 (by decide) ?_
  obtain ⟨v15, e16, h⟩ := Option.bind_eq_some_iff.mp h
  refine k_aA e16 dX1_put_95 ?_
  refine x_iload dX1_put_96 rfl ?_
  refine x_iload dX1_put_98 rfl ?_
  obtain ⟨P17, e18, h⟩ := Option.bind_eq_some_iff.mp h
  refine k_sI e18 dX1_put_100 ?_
  refine x_aload_nr dX1_put_101 rfl ?_
  obtain ⟨v19, e20, h⟩ := Option.bind_eq_some_iff.mp h
  refine k_rA e20 dX1_put_102 f_X1_16 ?_
  refine x_iconst 3 dX1_put_105 (by decide) ?_
  obtain ⟨v21, e22, h⟩ := Option.bind_eq_some_iff.mp h
  refine k_aA e22 dX1_put_106 ?_
  refine x_iload dX1_put_107 rfl ?_
  refine x_aload_nr dX1_put_109 rfl ?_
  obtain ⟨v23, e24, h⟩ := Option.bind_eq_some_iff.mp h
  refine k_rI e24 dX1_put_110 f_X1_56 ?_
  obtain ⟨P25, e26, h⟩ := Option.bind_eq_some_iff.mp h
  refine k_sI e26 dX1_put_113 ?_
  refine x_aload_nr dX1_put_114 rfl ?_
  obtain ⟨v27, e28, h⟩ := Option.bind_eq_some_iff.mp h
  refine k_rA e28 dX1_put_115 f_X1_23 ?_
  refine x_iload_n dX1_put_118 rfl ?_
  refine x_dup2 dX1_put_119 rfl rfl ?_
  obtain ⟨v29, e30, h⟩ := Option.bind_eq_some_iff.mp h
  refine k_aI e30 dX1_put_120 ?_
  refine x_iconst 1 dX1_put_121 (by decide) ?_
  refine x_iload_n dX1_put_122 rfl ?_
  refine x_ishl dX1_put_123 ?_
  refine x_ior dX1_put_124 ?_
  obtain ⟨P31, e32, h⟩ := Option.bind_eq_some_iff.mp h
  refine k_sI e32 dX1_put_125 ?_
  refine x_aload_nr dX1_put_126 rfl ?_
  obtain ⟨v33, e34, h⟩ := Option.bind_eq_some_iff.mp h
  refine k_rA e34 dX1_put_127 f_X1_13 ?_
  refine x_iconst 2 dX1_put_130 (by decide) ?_
  obtain ⟨v35, e36, h⟩ := Option.bind_eq_some_iff.mp h
  refine k_aA e36 dX1_put_131 ?_
  refine x_iload_n dX1_put_132 rfl ?_
  refine x_dup2 dX1_put_133 rfl rfl ?_
  obtain ⟨v37, e38, h⟩ := Option.bind_eq_some_iff.mp h
  refine k_aI e38 dX1_put_134 ?_
  refine x_iconst 1 dX1_put_135 (by decide) ?_
  refine x_iadd dX1_put_136 ?_
  obtain ⟨P39, e40, h⟩ := Option.bind_eq_some_iff.mp h
  refine k_sI e40 dX1_put_137 ?_
  refine x_aload_nr dX1_put_138 rfl ?_
  obtain ⟨v41, e42, h⟩ := Option.bind_eq_some_iff.mp h
  refine k_rA e42 dX1_put_139 f_X1_27 ?_
  refine x_iload_n dX1_put_142 rfl ?_
  refine x_dup2 dX1_put_143 rfl rfl ?_
  obtain ⟨v43, e44, h⟩ := Option.bind_eq_some_iff.mp h
  refine k_aI e44 dX1_put_144 ?_
  refine x_iconst 1 dX1_put_145 (by decide) ?_
  refine x_iadd dX1_put_146 ?_
  obtain ⟨P45, e46, h⟩ := Option.bind_eq_some_iff.mp h
  refine k_sI e46 dX1_put_147 ?_
  refine x_iload_n dX1_put_148 rfl ?_
  refine x_if_ne 193 dX1_put_149 (by decide) (fun q70 => ?_) (fun q70 => ?_)
  · rw [if_pos q70] at h
    cases h
    exact x_ret rfl dX1_put_193 hQ
  · rw [if_neg (fun z9 => z9 q70)] at h
    refine x_aload_nr dX1_put_152 rfl ?_
    obtain ⟨v47, e48, h⟩ := Option.bind_eq_some_iff.mp h
    refine k_rA e48 dX1_put_153 f_X1_30 ?_
    refine x_iload_n dX1_put_156 rfl ?_
    obtain ⟨v49, e50, h⟩ := Option.bind_eq_some_iff.mp h
    refine k_aI e50 dX1_put_157 ?_
    refine x_iconst (-1) dX1_put_158 (by decide) ?_
    refine x_icmp_ne 193 dX1_put_159 (by decide) (fun q69 => ?_) (fun q69 => ?_)
    · rw [if_pos q69] at h
      cases h
      exact x_ret rfl dX1_put_193 hQ
    · rw [if_neg (fun z9 => z9 q69)] at h
      refine x_aload_nr dX1_put_162 rfl ?_
      obtain ⟨v51, e52, h⟩ := Option.bind_eq_some_iff.mp h
      refine k_rA e52 dX1_put_163 f_X1_30 ?_
      refine x_iload_n dX1_put_166 rfl ?_
      refine x_aload_nr dX1_put_167 rfl ?_
      obtain ⟨v53, e54, h⟩ := Option.bind_eq_some_iff.mp h
      refine k_rI e54 dX1_put_168 f_X1_56 ?_
      obtain ⟨P55, e56, h⟩ := Option.bind_eq_some_iff.mp h
      refine k_sI e56 dX1_put_171 ?_
      refine x_aload_nr dX1_put_172 rfl ?_
      obtain ⟨v57, e58, h⟩ := Option.bind_eq_some_iff.mp h
      refine k_rA e58 dX1_put_173 f_X1_33 ?_
      refine x_iload_n dX1_put_176 rfl ?_
      refine x_iload dX1_put_177 rfl ?_
      obtain ⟨P59, e60, h⟩ := Option.bind_eq_some_iff.mp h
      refine k_sI e60 dX1_put_179 ?_
      refine x_aload_nr dX1_put_180 rfl ?_
      obtain ⟨v61, e62, h⟩ := Option.bind_eq_some_iff.mp h
      refine k_rA e62 dX1_put_181 f_X1_36 ?_
      refine x_iload_n dX1_put_184 rfl ?_
      refine x_aload_nr dX1_put_185 rfl ?_
      obtain ⟨v63, e64, h⟩ := Option.bind_eq_some_iff.mp h
      refine k_rA e64 dX1_put_186 f_X1_19 ?_
      refine x_iload dX1_put_189 rfl ?_
      obtain ⟨v65, e66, h⟩ := Option.bind_eq_some_iff.mp h
      refine k_aJ e66 dX1_put_191 ?_
      obtain ⟨P67, e68, h⟩ := Option.bind_eq_some_iff.mp h
      refine k_sJ e68 dX1_put_192 ?_
      cases h
      exact x_ret rfl dX1_put_193 hQ
theorem s_X1_put {G : xG} {l : Launch} (hl : l.stackTraces = false) : ∀ n pc env P z, f_X1_put n pc env P = some z → ∀ L st, lay_X1_put pc env = some (L, st) → ∀ Q : xR → xH → Prop, Q z.1 z.2 → Wp G l 4 mX1_put pc L st P Q := by
  intro n
  induction n with
  | zero => intro pc env P z h; cases h
  | succ n ih =>
    intro pc env P z h L st hlay Q hQ
    unfold f_X1_put at h
    split at h
    · cases hlay
      exact t_X1_put_0 hl ih h hQ
    · cases hlay
      exact t_X1_put_69 hl ih h hQ
    · cases h
theorem c_X1_put {G : xG} {l : Launch} (hl : l.stackTraces = false) {n : Nat} {as : List Value} {P : xH} {z : xR × xH} (h : f_X1_put n 0 as P = some z) : Ct G l 4 mX1_put as P (fun r P1 => (r, P1) = z) := by
  cases n with
  | zero => cases h
  | succ n =>
    unfold f_X1_put at h
    split at h
    · exact Ct.of hl (by decide +kernel) wc_X1_put (Nat.le_of_ble_eq_true rfl) (t_X1_put_0 hl (s_X1_put hl _) h rfl)
    all_goals first | (cases h; done) | (rename_i q9 _; exact absurd q9 (by decide)) | (rename_i q9; exact absurd q9 (by decide)) | contradiction
/-! QuakeNet$Net.tellNext()V -/
def b_X1_tellNext_0 (n : Nat) (rec : Nat → List Value → xH → xO) (a0 : Nat) (P : xH) : xO :=
  (rI P a0 1 4).bind fun v1 =>
  (rA P a0 1 0).bind fun v3 =>
  (rI P v3 9 3).bind fun v5 =>
  if v1 < v5 then
    (rI P a0 1 4).bind fun v7 =>
    (wV P a0 1 4 (.int ((v7 + 1)))).bind fun P9 =>
    (rA P9 a0 1 0).bind fun v11 =>
    (rA P9 v11 9 0).bind fun v13 =>
    (aA P9 v13 1).bind fun v15 =>
    (aI P9 v15 v1).bind fun v17 =>
    (rA P9 a0 1 0).bind fun v19 =>
    (rA P9 v19 9 0).bind fun v21 =>
    (aA P9 v21 8).bind fun v23 =>
    (aI P9 v23 v1).bind fun v25 =>
    (kO P9 a0 1).bind fun _ =>
    (f_X1_lose n 0 [.ref a0, .int v17, .int v25] P9).bind fun r28 => xU r28 fun P27 =>
    (kO P27 a0 1).bind fun _ =>
    (f_X1_isFull n 0 [.ref a0, .int v17] P27).bind fun r32 => xI r32 fun v34 P31 =>
    if v34 = 0 then
      rec 74 [.ref a0, .int v1, .int v17] P31
    else
      (kO P31 a0 1).bind fun _ =>
      (f_X1_leastOn n 0 [.ref a0, .int v17] P31).bind fun r37 => xI r37 fun v39 P36 =>
      (kO P36 a0 1).bind fun _ =>
      (f_X1_giveAway n 0 [.ref a0, .int v17, .int v39] P36).bind fun r42 => xU r42 fun P41 =>
      rec 74 [.ref a0, .int v1, .int v17] P41
  else
    some (.inl none, P)
def b_X1_tellNext_74 (n : Nat) (rec : Nat → List Value → xH → xO) (a0 : Nat) (a1 : Int32) (a2 : Int32) (P : xH) : xO :=
  (rA P a0 1 0).bind fun v1 =>
  (rA P v1 9 0).bind fun v3 =>
  (aA P v3 7).bind fun v5 =>
  (aI P v5 a1).bind fun v7 =>
  (kO P a0 1).bind fun _ =>
  (f_X1_put n 0 [.ref a0, .int a2, .int a1, .int v7, .int ((-1))] P).bind fun r10 => xU r10 fun P9 =>
  some (.inl none, P9)
def lay_X1_tellNext : Nat → List Value → Option (xL × List Value)
  | 0, [a0] => some ([some a0, none, none], [])
  | 74, [a0, a1, a2] => some ([some a0, some a1, some a2], [])
  | _, _ => none
def f_X1_tellNext : Nat → Nat → List Value → xH → xO
  | 0 => fun _ _ _ => none
  | n + 1 => fun pc env P => match pc, env with
    | 0, [.ref a0] => b_X1_tellNext_0 n (f_X1_tellNext n) a0 P
    | 74, [.ref a0, .int a1, .int a2] => b_X1_tellNext_74 n (f_X1_tellNext n) a0 a1 a2 P
    | _, _ => none
set_option maxHeartbeats 2000000 in
set_option maxRecDepth 20000 in
theorem t_X1_tellNext_0 {G : xG} {l : Launch} (hl : l.stackTraces = false) {n : Nat} {rec : Nat → List Value → xH → xO} (hrec : ∀ pc env P z, rec pc env P = some z → ∀ L st, lay_X1_tellNext pc env = some (L, st) → ∀ Q : xR → xH → Prop, Q z.1 z.2 → Wp G l 6 mX1_tellNext pc L st P Q) {a0} {P : xH} {z : xR × xH} (h : b_X1_tellNext_0 n rec a0 P = some z) {Q : xR → xH → Prop} (hQ : Q z.1 z.2) : Wp G l 6 mX1_tellNext 0 [some (.ref a0), none, none] [] P Q := by
  unfold b_X1_tellNext_0 at h
  refine x_aload_nr dX1_tellNext_0 rfl ?_
  obtain ⟨v1, e2, h⟩ := Option.bind_eq_some_iff.mp h
  refine k_rI e2 dX1_tellNext_1 f_X1_63 ?_
  refine x_istore_n dX1_tellNext_4 (Nat.le_of_ble_eq_true rfl) ?_
  refine x_iload_n dX1_tellNext_5 rfl ?_
  refine x_aload_nr dX1_tellNext_6 rfl ?_
  obtain ⟨v3, e4, h⟩ := Option.bind_eq_some_iff.mp h
  refine k_rA e4 dX1_tellNext_7 f_X1_42 ?_
  obtain ⟨v5, e6, h⟩ := Option.bind_eq_some_iff.mp h
  refine k_rI e6 dX1_tellNext_10 f_X1_91 ?_
  refine x_icmp_lt 17 dX1_tellNext_13 (by decide) (fun q46 => ?_) (fun q46 => ?_)
  · rw [if_pos q46] at h
    refine x_aload_nr dX1_tellNext_17 rfl ?_
    refine x_dup dX1_tellNext_18 rfl ?_
    obtain ⟨v7, e8, h⟩ := Option.bind_eq_some_iff.mp h
    refine k_rI e8 dX1_tellNext_19 f_X1_63 ?_
    refine x_iconst 1 dX1_tellNext_22 (by decide) ?_
    refine x_iadd dX1_tellNext_23 ?_
    obtain ⟨P9, e10, h⟩ := Option.bind_eq_some_iff.mp h
    refine k_wI e10 dX1_tellNext_24 f_X1_63 (Or.inl (by decide)) rfl ?_
    refine x_aload_nr dX1_tellNext_27 rfl ?_
    obtain ⟨v11, e12, h⟩ := Option.bind_eq_some_iff.mp h
    refine k_rA e12 dX1_tellNext_28 f_X1_42 ?_
    obtain ⟨v13, e14, h⟩ := Option.bind_eq_some_iff.mp h
    refine k_rA e14 dX1_tellNext_31 f_X1_82 ?_
    refine x_iconst 1 dX1_tellNext_34 (by decide) ?_
    obtain ⟨v15, e16, h⟩ := Option.bind_eq_some_iff.mp h
    refine k_aA e16 dX1_tellNext_35 ?_
    refine x_iload_n dX1_tellNext_36 rfl ?_
    obtain ⟨v17, e18, h⟩ := Option.bind_eq_some_iff.mp h
    refine k_aI e18 dX1_tellNext_37 ?_
    refine x_istore_n dX1_tellNext_38 (Nat.le_of_ble_eq_true rfl) ?_
    refine x_aload_nr dX1_tellNext_39 rfl ?_
    refine x_iload_n dX1_tellNext_40 rfl ?_
    refine x_aload_nr dX1_tellNext_41 rfl ?_
    obtain ⟨v19, e20, h⟩ := Option.bind_eq_some_iff.mp h
    refine k_rA e20 dX1_tellNext_42 f_X1_42 ?_
    obtain ⟨v21, e22, h⟩ := Option.bind_eq_some_iff.mp h
    refine k_rA e22 dX1_tellNext_45 f_X1_82 ?_
    refine x_bipush 8 dX1_tellNext_48 (by decide) ?_
    obtain ⟨v23, e24, h⟩ := Option.bind_eq_some_iff.mp h
    refine k_aA e24 dX1_tellNext_50 ?_
    refine x_iload_n dX1_tellNext_51 rfl ?_
    obtain ⟨v25, e26, h⟩ := Option.bind_eq_some_iff.mp h
    refine k_aI e26 dX1_tellNext_52 ?_
    obtain ⟨_, e30, h⟩ := Option.bind_eq_some_iff.mp h
    obtain ⟨fse30, e30⟩ := kO_ok e30
    obtain ⟨r28, e29, h⟩ := Option.bind_eq_some_iff.mp h
    replace h := xU_ok h
    obtain ⟨P27, rfl, h⟩ := h
    refine x_callV (c_X1_lose hl e29) dX1_tellNext_53 cw_X1_lose wl_X1_97 wi_X1_lose wse_X1_lose rfl e30 (by decide) rfl (by omega) (by decide) rfl (Nat.le_of_ble_eq_true rfl) rfl (fun v9 P9 hq9 => ?_) (fun i9 P9 hq9 => by cases hq9)
    cases hq9
    refine x_aload_nr dX1_tellNext_56 rfl ?_
    refine x_iload_n dX1_tellNext_57 rfl ?_
    obtain ⟨_, e35, h⟩ := Option.bind_eq_some_iff.mp h
    obtain ⟨fse35, e35⟩ := kO_ok e35
    obtain ⟨r32, e33, h⟩ := Option.bind_eq_some_iff.mp h
    replace h := xI_ok h
    obtain ⟨v34, P31, rfl, h⟩ := h
    refine x_callV (c_X1_isFull hl e33) dX1_tellNext_58 cw_X1_isFull wl_X1_101 wi_X1_isFull wse_X1_isFull rfl e35 (by decide) rfl (by omega) (by decide) rfl (Nat.le_of_ble_eq_true rfl) rfl (fun v9 P9 hq9 => ?_) (fun i9 P9 hq9 => by cases hq9)
    cases hq9
    refine x_if_eq 74 dX1_tellNext_61 (by decide) (fun q45 => ?_) (fun q45 => ?_)
    · rw [if_pos q45] at h
      exact Wp.mask [true, true, true] (hrec 74 _ _ _ h _ _ rfl _ hQ)
    · rw [if_neg q45] at h
      refine x_aload_nr dX1_tellNext_64 rfl ?_
      refine x_iload_n dX1_tellNext_65 rfl ?_
      refine x_aload_nr dX1_tellNext_66 rfl ?_
      refine x_iload_n dX1_tellNext_67 rfl ?_
      obtain ⟨_, e40, h⟩ := Option.bind_eq_some_iff.mp h
      obtain ⟨fse40, e40⟩ := kO_ok e40
      obtain ⟨r37, e38, h⟩ := Option.bind_eq_some_iff.mp h
      replace h := xI_ok h
      obtain ⟨v39, P36, rfl, h⟩ := h
      refine x_callV (c_X1_leastOn hl e38) dX1_tellNext_68 cw_X1_leastOn wl_X1_105 wi_X1_leastOn wse_X1_leastOn rfl e40 (by decide) rfl (by omega) (by decide) rfl (Nat.le_of_ble_eq_true rfl) rfl (fun v9 P9 hq9 => ?_) (fun i9 P9 hq9 => by cases hq9)
      cases hq9
      obtain ⟨_, e44, h⟩ := Option.bind_eq_some_iff.mp h
      obtain ⟨fse44, e44⟩ := kO_ok e44
      obtain ⟨r42, e43, h⟩ := Option.bind_eq_some_iff.mp h
      replace h := xU_ok h
      obtain ⟨P41, rfl, h⟩ := h
      refine x_callV (c_X1_giveAway hl e43) dX1_tellNext_71 cw_X1_giveAway wl_X1_109 wi_X1_giveAway wse_X1_giveAway rfl e44 (by decide) rfl (by omega) (by decide) rfl (Nat.le_of_ble_eq_true rfl) rfl (fun v9 P9 hq9 => ?_) (fun i9 P9 hq9 => by cases hq9)
      cases hq9
      exact Wp.mask [true, true, true] (hrec 74 _ _ _ h _ _ rfl _ hQ)
  · rw [if_neg q46] at h
    cases h
    exact x_ret rfl dX1_tellNext_16 hQ
set_option maxHeartbeats 2000000 in
set_option maxRecDepth 20000 in
theorem t_X1_tellNext_74 {G : xG} {l : Launch} (hl : l.stackTraces = false) {n : Nat} {rec : Nat → List Value → xH → xO} (hrec : ∀ pc env P z, rec pc env P = some z → ∀ L st, lay_X1_tellNext pc env = some (L, st) → ∀ Q : xR → xH → Prop, Q z.1 z.2 → Wp G l 6 mX1_tellNext pc L st P Q) {a0 a1 a2} {P : xH} {z : xR × xH} (h : b_X1_tellNext_74 n rec a0 a1 a2 P = some z) {Q : xR → xH → Prop} (hQ : Q z.1 z.2) : Wp G l 6 mX1_tellNext 74 [some (.ref a0), some (.int a1), some (.int a2)] [] P Q := by
  unfold b_X1_tellNext_74 at h
  refine x_aload_nr dX1_tellNext_74 rfl ?_
  refine x_iload_n dX1_tellNext_75 rfl ?_
  refine x_iload_n dX1_tellNext_76 rfl ?_
  refine x_aload_nr dX1_tellNext_77 rfl ?_
  obtain ⟨v1, e2, h⟩ := Option.bind_eq_some_iff.mp h
  refine k_rA e2 dX1_tellNext_78 f_X1_42 ?_
  obtain ⟨v3, e4, h⟩ := Option.bind_eq_some_iff.mp h
  refine k_rA e4 dX1_tellNext_81 f_X1_82 ?_
  refine x_bipush 7 dX1_tellNext_84 (by decide) ?_
  obtain ⟨v5, e6, h⟩ := Option.bind_eq_some_iff.mp h
  refine k_aA e6 dX1_tellNext_86 ?_
  refine x_iload_n dX1_tellNext_87 rfl ?_
  obtain ⟨v7, e8, h⟩ := Option.bind_eq_some_iff.mp h
  refine k_aI e8 dX1_tellNext_88 ?_
  refine x_iconst (-1) dX1_tellNext_89 (by decide) ?_
  obtain ⟨_, e12, h⟩ := Option.bind_eq_some_iff.mp h
  obtain ⟨fse12, e12⟩ := kO_ok e12
  obtain ⟨r10, e11, h⟩ := Option.bind_eq_some_iff.mp h
  replace h := xU_ok h
  obtain ⟨P9, rfl, h⟩ := h
  refine x_callV (c_X1_put hl e11) dX1_tellNext_90 cw_X1_put wl_X1_112 wi_X1_put wse_X1_put rfl e12 (by decide) rfl (by omega) (by decide) rfl (Nat.le_of_ble_eq_true rfl) rfl (fun v9 P9 hq9 => ?_) (fun i9 P9 hq9 => by cases hq9)
  cases hq9
  cases h
  exact x_ret rfl dX1_tellNext_93 hQ
theorem s_X1_tellNext {G : xG} {l : Launch} (hl : l.stackTraces = false) : ∀ n pc env P z, f_X1_tellNext n pc env P = some z → ∀ L st, lay_X1_tellNext pc env = some (L, st) → ∀ Q : xR → xH → Prop, Q z.1 z.2 → Wp G l 6 mX1_tellNext pc L st P Q := by
  intro n
  induction n with
  | zero => intro pc env P z h; cases h
  | succ n ih =>
    intro pc env P z h L st hlay Q hQ
    unfold f_X1_tellNext at h
    split at h
    · cases hlay
      exact t_X1_tellNext_0 hl ih h hQ
    · cases hlay
      exact t_X1_tellNext_74 hl ih h hQ
    · cases h
theorem c_X1_tellNext {G : xG} {l : Launch} (hl : l.stackTraces = false) {n : Nat} {as : List Value} {P : xH} {z : xR × xH} (h : f_X1_tellNext n 0 as P = some z) : Ct G l 6 mX1_tellNext as P (fun r P1 => (r, P1) = z) := by
  cases n with
  | zero => cases h
  | succ n =>
    unfold f_X1_tellNext at h
    split at h
    · exact Ct.of hl (by decide +kernel) wc_X1_tellNext (Nat.le_of_ble_eq_true rfl) (t_X1_tellNext_0 hl (s_X1_tellNext hl _) h rfl)
    all_goals first | (cases h; done) | (rename_i q9 _; exact absurd q9 (by decide)) | (rename_i q9; exact absurd q9 (by decide)) | contradiction
/-! QuakeNet$Words.fill(IIIII)V -/
def b_X9_fill_0 (n : Nat) (rec : Nat → List Value → xH → xO) (a0 : Nat) (a1 : Int32) (a2 : Int32) (a3 : Int32) (a4 : Int32) (a5 : Int32) (P : xH) : xO :=
  if a1 < 0 then
    some (.inl none, P)
  else
    if 30 ≤ a1 then
      some (.inl none, P)
    else
      (rA P a0 9 0).bind fun v1 =>
      (aA P v1 4).bind fun v3 =>
      (sI P v3 a1 a2).bind fun P5 =>
      (rA P5 a0 9 0).bind fun v7 =>
      (aA P5 v7 5).bind fun v9 =>
      (sI P5 v9 a1 a3).bind fun P11 =>
      (rA P11 a0 9 0).bind fun v13 =>
      (aA P11 v13 6).bind fun v15 =>
      (sI P11 v15 a1 a4).bind fun P17 =>
      (rA P17 a0 9 0).bind fun v19 =>
      (aA P17 v19 7).bind fun v21 =>
      (sI P17 v21 a1 a5).bind fun P23 =>
      some (.inl none, P23)
def lay_X9_fill : Nat → List Value → Option (xL × List Value)
  | 0, [a0, a1, a2, a3, a4, a5] => some ([some a0, some a1, some a2, some a3, some a4, some a5], [])
  | _, _ => none
def f_X9_fill : Nat → Nat → List Value → xH → xO
  | 0 => fun _ _ _ => none
  | n + 1 => fun pc env P => match pc, env with
    | 0, [.ref a0, .int a1, .int a2, .int a3, .int a4, .int a5] => b_X9_fill_0 n (f_X9_fill n) a0 a1 a2 a3 a4 a5 P
    | _, _ => none
set_option maxHeartbeats 2000000 in
set_option maxRecDepth 20000 in
theorem t_X9_fill_0 {G : xG} {l : Launch} (hl : l.stackTraces = false) {n : Nat} {rec : Nat → List Value → xH → xO} (hrec : ∀ pc env P z, rec pc env P = some z → ∀ L st, lay_X9_fill pc env = some (L, st) → ∀ Q : xR → xH → Prop, Q z.1 z.2 → Wp G l 3 mX9_fill pc L st P Q) {a0 a1 a2 a3 a4 a5} {P : xH} {z : xR × xH} (h : b_X9_fill_0 n rec a0 a1 a2 a3 a4 a5 P = some z) {Q : xR → xH → Prop} (hQ : Q z.1 z.2) : Wp G l 3 mX9_fill 0 [some (.ref a0), some (.int a1), some (.int a2), some (.int a3), some (.int a4), some (.int a5)] [] P Q := by
  unfold b_X9_fill_0 at h
  refine x_iload_n dX9_fill_0 rfl ?_
  refine x_if_lt 50 dX9_fill_1 (by decide) (fun q26 => ?_) (fun q26 => ?_)
  · rw [if_pos q26] at h
    cases h
    exact x_ret rfl dX9_fill_50 hQ
  · rw [if_neg q26] at h
    refine x_iload_n dX9_fill_4 rfl ?_
    refine x_bipush 30 dX9_fill_5 (by decide) ?_
    refine x_icmp_ge 50 dX9_fill_7 (by decide) (fun q25 => ?_) (fun q25 => ?_)
    · rw [if_pos q25] at h
      cases h
      exact x_ret rfl dX9_fill_50 hQ
    · rw [if_neg q25] at h
      refine x_aload_nr dX9_fill_10 rfl ?_
      obtain ⟨v1, e2, h⟩ := Option.bind_eq_some_iff.mp h
      refine k_rA e2 dX9_fill_11 f_X9_13 ?_
      refine x_iconst 4 dX9_fill_14 (by decide) ?_
      obtain ⟨v3, e4, h⟩ := Option.bind_eq_some_iff.mp h
      refine k_aA e4 dX9_fill_15 ?_
      refine x_iload_n dX9_fill_16 rfl ?_
      refine x_iload_n dX9_fill_17 rfl ?_
      obtain ⟨P5, e6, h⟩ := Option.bind_eq_some_iff.mp h
      refine k_sI e6 dX9_fill_18 ?_
      refine x_aload_nr dX9_fill_19 rfl ?_
      obtain ⟨v7, e8, h⟩ := Option.bind_eq_some_iff.mp h
      refine k_rA e8 dX9_fill_20 f_X9_13 ?_
      refine x_iconst 5 dX9_fill_23 (by decide) ?_
      obtain ⟨v9, e10, h⟩ := Option.bind_eq_some_iff.mp h
      refine k_aA e10 dX9_fill_24 ?_
      refine x_iload_n dX9_fill_25 rfl ?_
      refine x_iload_n dX9_fill_26 rfl ?_
      obtain ⟨P11, e12, h⟩ := Option.bind_eq_some_iff.mp h
      refine k_sI e12 dX9_fill_27 ?_
      refine x_aload_nr dX9_fill_28 rfl ?_
      obtain ⟨v13, e14, h⟩ := Option.bind_eq_some_iff.mp h
      refine k_rA e14 dX9_fill_29 f_X9_13 ?_
      refine x_bipush 6 dX9_fill_32 (by decide) ?_
      obtain ⟨v15, e16, h⟩ := Option.bind_eq_some_iff.mp h
      refine k_aA e16 dX9_fill_34 ?_
      refine x_iload_n dX9_fill_35 rfl ?_
      refine x_iload dX9_fill_36 rfl ?_
      obtain ⟨P17, e18, h⟩ := Option.bind_eq_some_iff.mp h
      refine k_sI e18 dX9_fill_38 ?_
      refine x_aload_nr dX9_fill_39 rfl ?_
      obtain ⟨v19, e20, h⟩ := Option.bind_eq_some_iff.mp h
      refine k_rA e20 dX9_fill_40 f_X9_13 ?_
      refine x_bipush 7 dX9_fill_43 (by decide) ?_
      obtain ⟨v21, e22, h⟩ := Option.bind_eq_some_iff.mp h
      refine k_aA e22 dX9_fill_45 ?_
      refine x_iload_n dX9_fill_46 rfl ?_
      refine x_iload dX9_fill_47 rfl ?_
      obtain ⟨P23, e24, h⟩ := Option.bind_eq_some_iff.mp h
      refine k_sI e24 dX9_fill_49 ?_
      cases h
      exact x_ret rfl dX9_fill_50 hQ
theorem s_X9_fill {G : xG} {l : Launch} (hl : l.stackTraces = false) : ∀ n pc env P z, f_X9_fill n pc env P = some z → ∀ L st, lay_X9_fill pc env = some (L, st) → ∀ Q : xR → xH → Prop, Q z.1 z.2 → Wp G l 3 mX9_fill pc L st P Q := by
  intro n
  induction n with
  | zero => intro pc env P z h; cases h
  | succ n ih =>
    intro pc env P z h L st hlay Q hQ
    unfold f_X9_fill at h
    split at h
    · cases hlay
      exact t_X9_fill_0 hl ih h hQ
    · cases h
theorem c_X9_fill {G : xG} {l : Launch} (hl : l.stackTraces = false) {n : Nat} {as : List Value} {P : xH} {z : xR × xH} (h : f_X9_fill n 0 as P = some z) : Ct G l 3 mX9_fill as P (fun r P1 => (r, P1) = z) := by
  cases n with
  | zero => cases h
  | succ n =>
    unfold f_X9_fill at h
    split at h
    · exact Ct.of hl (by decide +kernel) wc_X9_fill (Nat.le_of_ble_eq_true rfl) (t_X9_fill_0 hl (s_X9_fill hl _) h rfl)
    all_goals first | (cases h; done) | (rename_i q9 _; exact absurd q9 (by decide)) | (rename_i q9; exact absurd q9 (by decide)) | contradiction
/-! QuakeNet$Words.open(IIII)I -/
def b_X9_open_0 (n : Nat) (rec : Nat → List Value → xH → xO) (a0 : Nat) (a1 : Int32) (a2 : Int32) (a3 : Int32) (a4 : Int32) (P : xH) : xO :=
  (rI P a0 9 3).bind fun v1 =>
  if v1 < 30 then
    (rA P a0 9 0).bind fun v3 =>
    (aA P v3 0).bind fun v5 =>
    (sI P v5 v1 a1).bind fun P7 =>
    (rA P7 a0 9 0).bind fun v9 =>
    (aA P7 v9 1).bind fun v11 =>
    (sI P7 v11 v1 a2).bind fun P13 =>
    (rA P13 a0 9 0).bind fun v15 =>
    (aA P13 v15 2).bind fun v17 =>
    (sI P13 v17 v1 a3).bind fun P19 =>
    (rA P19 a0 9 0).bind fun v21 =>
    (aA P19 v21 3).bind fun v23 =>
    (sI P19 v23 v1 a4).bind fun P25 =>
    (rA P25 a0 9 0).bind fun v27 =>
    (aA P25 v27 8).bind fun v29 =>
    (sI P25 v29 v1 ((-1))).bind fun P31 =>
    (rI P31 a0 9 3).bind fun v33 =>
    (wV P31 a0 9 3 (.int ((v33 + 1)))).bind fun P35 =>
    some (.inl (some (.int v1)), P35)
  else
    some (.inl (some (.int ((-1)))), P)
def lay_X9_open : Nat → List Value → Option (xL × List Value)
  | 0, [a0, a1, a2, a3, a4] => some ([some a0, some a1, some a2, some a3, some a4, none], [])
  | _, _ => none
def f_X9_open : Nat → Nat → List Value → xH → xO
  | 0 => fun _ _ _ => none
  | n + 1 => fun pc env P => match pc, env with
    | 0, [.ref a0, .int a1, .int a2, .int a3, .int a4] => b_X9_open_0 n (f_X9_open n) a0 a1 a2 a3 a4 P
    | _, _ => none
set_option maxHeartbeats 2000000 in
set_option maxRecDepth 20000 in
theorem t_X9_open_0 {G : xG} {l : Launch} (hl : l.stackTraces = false) {n : Nat} {rec : Nat → List Value → xH → xO} (hrec : ∀ pc env P z, rec pc env P = some z → ∀ L st, lay_X9_open pc env = some (L, st) → ∀ Q : xR → xH → Prop, Q z.1 z.2 → Wp G l 3 mX9_open pc L st P Q) {a0 a1 a2 a3 a4} {P : xH} {z : xR × xH} (h : b_X9_open_0 n rec a0 a1 a2 a3 a4 P = some z) {Q : xR → xH → Prop} (hQ : Q z.1 z.2) : Wp G l 3 mX9_open 0 [some (.ref a0), some (.int a1), some (.int a2), some (.int a3), some (.int a4), none] [] P Q := by
  unfold b_X9_open_0 at h
  refine x_aload_nr dX9_open_0 rfl ?_
  obtain ⟨v1, e2, h⟩ := Option.bind_eq_some_iff.mp h
  refine k_rI e2 dX9_open_1 f_X9_31 ?_
  refine x_istore dX9_open_4 (Nat.le_of_ble_eq_true rfl) ?_
  refine x_iload dX9_open_6 rfl ?_
  refine x_bipush 30 dX9_open_8 (by decide) ?_
  refine x_icmp_lt 15 dX9_open_10 (by decide) (fun q37 => ?_) (fun q37 => ?_)
  · rw [if_pos q37] at h
    refine x_aload_nr dX9_open_15 rfl ?_
    obtain ⟨v3, e4, h⟩ := Option.bind_eq_some_iff.mp h
    refine k_rA e4 dX9_open_16 f_X9_13 ?_
    refine x_iconst 0 dX9_open_19 (by decide) ?_
    obtain ⟨v5, e6, h⟩ := Option.bind_eq_some_iff.mp h
    refine k_aA e6 dX9_open_20 ?_
    refine x_iload dX9_open_21 rfl ?_
    refine x_iload_n dX9_open_23 rfl ?_
    obtain ⟨P7, e8, h⟩ := Option.bind_eq_some_iff.mp h
    refine k_sI e8 dX9_open_24 ?_
    refine x_aload_nr dX9_open_25 rfl ?_
    obtain ⟨v9, e10, h⟩ := Option.bind_eq_some_iff.mp h
    refine k_rA e10 dX9_open_26 f_X9_13 ?_
    refine x_iconst 1 dX9_open_29 (by decide) ?_
    obtain ⟨v11, e12, h⟩ := Option.bind_eq_some_iff.mp h
    refine k_aA e12 dX9_open_30 ?_
    refine x_iload dX9_open_31 rfl ?_
    refine x_iload_n dX9_open_33 rfl ?_
    obtain ⟨P13, e14, h⟩ := Option.bind_eq_some_iff.mp h
    refine k_sI e14 dX9_open_34 ?_
    refine x_aload_nr dX9_open_35 rfl ?_
    obtain ⟨v15, e16, h⟩ := Option.bind_eq_some_iff.mp h
    refine k_rA e16 dX9_open_36 f_X9_13 ?_
    refine x_iconst 2 dX9_open_39 (by decide) ?_
    obtain ⟨v17, e18, h⟩ := Option.bind_eq_some_iff.mp h
    refine k_aA e18 dX9_open_40 ?_
    refine x_iload dX9_open_41 rfl ?_
    refine x_iload_n dX9_open_43 rfl ?_
    obtain ⟨P19, e20, h⟩ := Option.bind_eq_some_iff.mp h
    refine k_sI e20 dX9_open_44 ?_
    refine x_aload_nr dX9_open_45 rfl ?_
    obtain ⟨v21, e22, h⟩ := Option.bind_eq_some_iff.mp h
    refine k_rA e22 dX9_open_46 f_X9_13 ?_
    refine x_iconst 3 dX9_open_49 (by decide) ?_
    obtain ⟨v23, e24, h⟩ := Option.bind_eq_some_iff.mp h
    refine k_aA e24 dX9_open_50 ?_
    refine x_iload dX9_open_51 rfl ?_
    refine x_iload dX9_open_53 rfl ?_
    obtain ⟨P25, e26, h⟩ := Option.bind_eq_some_iff.mp h
    refine k_sI e26 dX9_open_55 ?_
    refine x_aload_nr dX9_open_56 rfl ?_
    obtain ⟨v27, e28, h⟩ := Option.bind_eq_some_iff.mp h
    refine k_rA e28 dX9_open_57 f_X9_13 ?_
    refine x_bipush 8 dX9_open_60 (by decide) ?_
    obtain ⟨v29, e30, h⟩ := Option.bind_eq_some_iff.mp h
    refine k_aA e30 dX9_open_62 ?_
    refine x_iload dX9_open_63 rfl ?_
    refine x_iconst (-1) dX9_open_65 (by decide) ?_
    obtain ⟨P31, e32, h⟩ := Option.bind_eq_some_iff.mp h
    refine k_sI e32 dX9_open_66 ?_
    refine x_aload_nr dX9_open_67 rfl ?_
    refine x_dup dX9_open_68 rfl ?_
    obtain ⟨v33, e34, h⟩ := Option.bind_eq_some_iff.mp h
    refine k_rI e34 dX9_open_69 f_X9_31 ?_
    refine x_iconst 1 dX9_open_72 (by decide) ?_
    refine x_iadd dX9_open_73 ?_
    obtain ⟨P35, e36, h⟩ := Option.bind_eq_some_iff.mp h
    refine k_wI e36 dX9_open_74 f_X9_31 (Or.inl (by decide)) rfl ?_
    refine x_iload dX9_open_77 rfl ?_
    cases h
    exact x_iret .int rfl rfl dX9_open_79 hQ
  · rw [if_neg q37] at h
    refine x_iconst (-1) dX9_open_13 (by decide) ?_
    cases h
    exact x_iret .int rfl rfl dX9_open_14 hQ
theorem s_X9_open {G : xG} {l : Launch} (hl : l.stackTraces = false) : ∀ n pc env P z, f_X9_open n pc env P = some z → ∀ L st, lay_X9_open pc env = some (L, st) → ∀ Q : xR → xH → Prop, Q z.1 z.2 → Wp G l 3 mX9_open pc L st P Q := by
  intro n
  induction n with
  | zero => intro pc env P z h; cases h
  | succ n ih =>
    intro pc env P z h L st hlay Q hQ
    unfold f_X9_open at h
    split at h
    · cases hlay
      exact t_X9_open_0 hl ih h hQ
    · cases h
theorem c_X9_open {G : xG} {l : Launch} (hl : l.stackTraces = false) {n : Nat} {as : List Value} {P : xH} {z : xR × xH} (h : f_X9_open n 0 as P = some z) : Ct G l 3 mX9_open as P (fun r P1 => (r, P1) = z) := by
  cases n with
  | zero => cases h
  | succ n =>
    unfold f_X9_open at h
    split at h
    · exact Ct.of hl (by decide +kernel) wc_X9_open (Nat.le_of_ble_eq_true rfl) (t_X9_open_0 hl (s_X9_open hl _) h rfl)
    all_goals first | (cases h; done) | (rename_i q9 _; exact absurd q9 (by decide)) | (rename_i q9; exact absurd q9 (by decide)) | contradiction
/-! QuakeNet.say(IIIIIII)I -/
def b_X10_say_0 (n : Nat) (rec : Nat → List Value → xH → xO) (a0 : Nat) (a1 : Int32) (a2 : Int32) (a3 : Int32) (a4 : Int32) (a5 : Int32) (a6 : Int32) (a7 : Int32) (P : xH) : xO :=
  (kO P a0 10).bind fun _ =>
  (f_X10_needPhone n 0 [.ref a0, .int a1] P).bind fun r2 => xUt r2 fun P1 =>
  (f_X10_needIndex n 0 [.int a4, .int 16] P1).bind fun r6 => xUt r6 fun P5 =>
  (f_X10_needPlace n 0 [.int a5] P5).bind fun r9 => xUt r9 fun P8 =>
  (f_X10_needWithin n 0 [.int a2, .int 0, .int 4] P8).bind fun r12 => xUt r12 fun P11 =>
  (f_X10_needWithin n 0 [.int a3, .int 1, .int 200] P11).bind fun r15 => xUt r15 fun P14 =>
  if 1 < a2 then
    rec 52 [.ref a0, .int a1, .int a2, .int a3, .int a4, .int a5, .int a6, .int a7] P14
  else
    (rA P14 a0 10 1).bind fun v17 =>
    (rA P14 v17 7 3).bind fun v19 =>
    (rI P14 v19 1 2).bind fun v21 =>
    (f_X10_needWithin n 0 [.int a6, .int 0, .int v21] P14).bind fun r24 => xUt r24 fun P23 =>
    rec 52 [.ref a0, .int a1, .int a2, .int a3, .int a4, .int a5, .int a6, .int a7] P23
def b_X10_say_52 (n : Nat) (rec : Nat → List Value → xH → xO) (a0 : Nat) (a1 : Int32) (a2 : Int32) (a3 : Int32) (a4 : Int32) (a5 : Int32) (a6 : Int32) (a7 : Int32) (P : xH) : xO :=
  (f_X10_needWithin n 0 [.int a7, .int 0, .int 9999] P).bind fun r2 => xUt r2 fun P1 =>
  (rA P1 a0 10 1).bind fun v4 =>
  (rA P1 v4 7 1).bind fun v6 =>
  (rI P1 v6 9 3).bind fun v8 =>
  (f_X10_needSpace n 0 [.int v8, .int 30] P1).bind fun r11 => xUt r11 fun P10 =>
  (rA P10 a0 10 1).bind fun v13 =>
  (rA P10 v13 7 1).bind fun v15 =>
  (rA P10 a0 10 1).bind fun v17 =>
  (rA P10 v17 7 3).bind fun v19 =>
  (rI P10 v19 1 2).bind fun v21 =>
  (kO P10 v15 9).bind fun _ =>
  (f_X9_open n 0 [.ref v15, .int a2, .int a1, .int v21, .int a3] P10).bind fun r24 => xI r24 fun v26 P23 =>
  (rA P23 a0 10 1).bind fun v28 =>
  (rA P23 v28 7 1).bind fun v30 =>
  (kO P23 v30 9).bind fun _ =>
  (f_X9_fill n 0 [.ref v30, .int v26, .int a4, .int a5, .int a6, .int a7] P23).bind fun r33 => xU r33 fun P32 =>
  (rA P32 a0 10 1).bind fun v36 =>
  (rA P32 v36 7 3).bind fun v38 =>
  (kO P32 v38 1).bind fun _ =>
  (f_X1_tellNext n 0 [.ref v38] P32).bind fun r41 => xU r41 fun P40 =>
  some (.inl (some (.int v26)), P40)
def lay_X10_say : Nat → List Value → Option (xL × List Value)
  | 0, [a0, a1, a2, a3, a4, a5, a6, a7] => some ([some a0, some a1, some a2, some a3, some a4, some a5, some a6, some a7, none], [])
  | 52, [a0, a1, a2, a3, a4, a5, a6, a7] => some ([some a0, some a1, some a2, some a3, some a4, some a5, some a6, some a7, none], [])
  | _, _ => none
def f_X10_say : Nat → Nat → List Value → xH → xO
  | 0 => fun _ _ _ => none
  | n + 1 => fun pc env P => match pc, env with
    | 0, [.ref a0, .int a1, .int a2, .int a3, .int a4, .int a5, .int a6, .int a7] => b_X10_say_0 n (f_X10_say n) a0 a1 a2 a3 a4 a5 a6 a7 P
    | 52, [.ref a0, .int a1, .int a2, .int a3, .int a4, .int a5, .int a6, .int a7] => b_X10_say_52 n (f_X10_say n) a0 a1 a2 a3 a4 a5 a6 a7 P
    | _, _ => none
set_option maxHeartbeats 2000000 in
set_option maxRecDepth 20000 in
theorem t_X10_say_0 {G : xG} {l : Launch} (hl : l.stackTraces = false) {n : Nat} {rec : Nat → List Value → xH → xO} (hrec : ∀ pc env P z, rec pc env P = some z → ∀ L st, lay_X10_say pc env = some (L, st) → ∀ Q : xR → xH → Prop, Q z.1 z.2 → Wp G l 10 mX10_say pc L st P Q) {a0 a1 a2 a3 a4 a5 a6 a7} {P : xH} {z : xR × xH} (h : b_X10_say_0 n rec a0 a1 a2 a3 a4 a5 a6 a7 P = some z) {Q : xR → xH → Prop} (hQ : Q z.1 z.2) : Wp G l 10 mX10_say 0 [some (.ref a0), some (.int a1), some (.int a2), some (.int a3), some (.int a4), some (.int a5), some (.int a6), some (.int a7), none] [] P Q := by
  unfold b_X10_say_0 at h
  refine x_aload_nr dX10_say_0 rfl ?_
  refine x_iload_n dX10_say_1 rfl ?_
  obtain ⟨_, e4, h⟩ := Option.bind_eq_some_iff.mp h
  obtain ⟨fse4, e4⟩ := kO_ok e4
  obtain ⟨r2, e3, h⟩ := Option.bind_eq_some_iff.mp h
  replace h := xUt_ok h
  rcases h with ⟨P1, hr9, h⟩ | ⟨i8, P8, rfl, rfl⟩
  · subst hr9
    refine x_callV (c_X10_needPhone hl e3) dX10_say_2 cw_X10_needPhone wl_X10_90 wi_X10_needPhone wse_X10_needPhone rfl e4 (by decide) rfl (by omega) (by decide) rfl (Nat.le_of_ble_eq_true rfl) rfl (fun v9 P9 hq9 => ?_) (fun i9 P9 hq9 => by cases hq9)
    cases hq9
    refine x_iload dX10_say_5 rfl ?_
    refine x_bipush 16 dX10_say_7 (by decide) ?_
    obtain ⟨r6, e7, h⟩ := Option.bind_eq_some_iff.mp h
    replace h := xUt_ok h
    rcases h with ⟨P5, hr9, h⟩ | ⟨i8, P8, rfl, rfl⟩
    · subst hr9
      refine x_callS (c_X10_needIndex hl e7) dX10_say_9 cw_X10_needIndex wl_X10_87 ws_X10_needIndex rfl (by omega) (by decide) rfl (Nat.le_of_ble_eq_true rfl) rfl (fun v9 P9 hq9 => ?_) (fun i9 P9 hq9 => by cases hq9)
      cases hq9
      refine x_iload dX10_say_12 rfl ?_
      obtain ⟨r9, e10, h⟩ := Option.bind_eq_some_iff.mp h
      replace h := xUt_ok h
      rcases h with ⟨P8, hr9, h⟩ | ⟨i8, P8, rfl, rfl⟩
      · subst hr9
        refine x_callS (c_X10_needPlace hl e10) dX10_say_14 cw_X10_needPlace wl_X10_64 ws_X10_needPlace rfl (by omega) (by decide) rfl (Nat.le_of_ble_eq_true rfl) rfl (fun v9 P9 hq9 => ?_) (fun i9 P9 hq9 => by cases hq9)
        cases hq9
        refine x_iload_n dX10_say_17 rfl ?_
        refine x_iconst 0 dX10_say_18 (by decide) ?_
        refine x_iconst 4 dX10_say_19 (by decide) ?_
        obtain ⟨r12, e13, h⟩ := Option.bind_eq_some_iff.mp h
        replace h := xUt_ok h
        rcases h with ⟨P11, hr9, h⟩ | ⟨i8, P8, rfl, rfl⟩
        · subst hr9
          refine x_callS (c_X10_needWithin hl e13) dX10_say_20 cw_X10_needWithin wl_X10_67 ws_X10_needWithin rfl (by omega) (by decide) rfl (Nat.le_of_ble_eq_true rfl) rfl (fun v9 P9 hq9 => ?_) (fun i9 P9 hq9 => by cases hq9)
          cases hq9
          refine x_iload_n dX10_say_23 rfl ?_
          refine x_iconst 1 dX10_say_24 (by decide) ?_
          refine x_sipush 200 dX10_say_25 (by decide) ?_
          obtain ⟨r15, e16, h⟩ := Option.bind_eq_some_iff.mp h
          replace h := xUt_ok h
          rcases h with ⟨P14, hr9, h⟩ | ⟨i8, P8, rfl, rfl⟩
          · subst hr9
            refine x_callS (c_X10_needWithin hl e16) dX10_say_28 cw_X10_needWithin wl_X10_67 ws_X10_needWithin rfl (by omega) (by decide) rfl (Nat.le_of_ble_eq_true rfl) rfl (fun v9 P9 hq9 => ?_) (fun i9 P9 hq9 => by cases hq9)
            cases hq9
            refine x_iload_n dX10_say_31 rfl ?_
            refine x_iconst 1 dX10_say_32 (by decide) ?_
            refine x_icmp_gt 52 dX10_say_33 (by decide) (fun q26 => ?_) (fun q26 => ?_)
            · rw [if_pos q26] at h
              exact Wp.mask [true, true, true, true, true, true, true, true, false] (hrec 52 _ _ _ h _ _ rfl _ hQ)
            · rw [if_neg q26] at h
              refine x_iload dX10_say_36 rfl ?_
              refine x_iconst 0 dX10_say_38 (by decide) ?_
              refine x_aload_nr dX10_say_39 rfl ?_
              obtain ⟨v17, e18, h⟩ := Option.bind_eq_some_iff.mp h
              refine k_rA e18 dX10_say_40 f_X10_19 ?_
              obtain ⟨v19, e20, h⟩ := Option.bind_eq_some_iff.mp h
              refine k_rA e20 dX10_say_43 f_X10_42 ?_
              obtain ⟨v21, e22, h⟩ := Option.bind_eq_some_iff.mp h
              refine k_rI e22 dX10_say_46 f_X10_93 ?_
              obtain ⟨r24, e25, h⟩ := Option.bind_eq_some_iff.mp h
              replace h := xUt_ok h
              rcases h with ⟨P23, hr9, h⟩ | ⟨i8, P8, rfl, rfl⟩
              · subst hr9
                refine x_callS (c_X10_needWithin hl e25) dX10_say_49 cw_X10_needWithin wl_X10_67 ws_X10_needWithin rfl (by omega) (by decide) rfl (Nat.le_of_ble_eq_true rfl) rfl (fun v9 P9 hq9 => ?_) (fun i9 P9 hq9 => by cases hq9)
                cases hq9
                exact Wp.mask [true, true, true, true, true, true, true, true, false] (hrec 52 _ _ _ h _ _ rfl _ hQ)
              · exact x_callS (c_X10_needWithin hl e25) dX10_say_49 cw_X10_needWithin wl_X10_67 ws_X10_needWithin rfl (by omega) (by decide) rfl (Nat.le_of_ble_eq_true rfl) rfl (fun v9 P9 hq9 => by cases hq9) (fun i9 P9 hq9 => by cases hq9; exact hQ)
          · exact x_callS (c_X10_needWithin hl e16) dX10_say_28 cw_X10_needWithin wl_X10_67 ws_X10_needWithin rfl (by omega) (by decide) rfl (Nat.le_of_ble_eq_true rfl) rfl (fun v9 P9 hq9 => by cases hq9) (fun i9 P9 hq9 => by cases hq9; exact hQ)
        · exact x_callS (c_X10_needWithin hl e13) dX10_say_20 cw_X10_needWithin wl_X10_67 ws_X10_needWithin rfl (by omega) (by decide) rfl (Nat.le_of_ble_eq_true rfl) rfl (fun v9 P9 hq9 => by cases hq9) (fun i9 P9 hq9 => by cases hq9; exact hQ)
      · exact x_callS (c_X10_needPlace hl e10) dX10_say_14 cw_X10_needPlace wl_X10_64 ws_X10_needPlace rfl (by omega) (by decide) rfl (Nat.le_of_ble_eq_true rfl) rfl (fun v9 P9 hq9 => by cases hq9) (fun i9 P9 hq9 => by cases hq9; exact hQ)
    · exact x_callS (c_X10_needIndex hl e7) dX10_say_9 cw_X10_needIndex wl_X10_87 ws_X10_needIndex rfl (by omega) (by decide) rfl (Nat.le_of_ble_eq_true rfl) rfl (fun v9 P9 hq9 => by cases hq9) (fun i9 P9 hq9 => by cases hq9; exact hQ)
  · exact x_callV (c_X10_needPhone hl e3) dX10_say_2 cw_X10_needPhone wl_X10_90 wi_X10_needPhone wse_X10_needPhone rfl e4 (by decide) rfl (by omega) (by decide) rfl (Nat.le_of_ble_eq_true rfl) rfl (fun v9 P9 hq9 => by cases hq9) (fun i9 P9 hq9 => by cases hq9; exact hQ)
set_option maxHeartbeats 2000000 in
set_option maxRecDepth 20000 in
theorem t_X10_say_52 {G : xG} {l : Launch} (hl : l.stackTraces = false) {n : Nat} {rec : Nat → List Value → xH → xO} (hrec : ∀ pc env P z, rec pc env P = some z → ∀ L st, lay_X10_say pc env = some (L, st) → ∀ Q : xR → xH → Prop, Q z.1 z.2 → Wp G l 10 mX10_say pc L st P Q) {a0 a1 a2 a3 a4 a5 a6 a7} {P : xH} {z : xR × xH} (h : b_X10_say_52 n rec a0 a1 a2 a3 a4 a5 a6 a7 P = some z) {Q : xR → xH → Prop} (hQ : Q z.1 z.2) : Wp G l 10 mX10_say 52 [some (.ref a0), some (.int a1), some (.int a2), some (.int a3), some (.int a4), some (.int a5), some (.int a6), some (.int a7), none] [] P Q := by
  unfold b_X10_say_52 at h
  refine x_iload dX10_say_52 rfl ?_
  refine x_iconst 0 dX10_say_54 (by decide) ?_
  refine x_sipush 9999 dX10_say_55 (by decide) ?_
  obtain ⟨r2, e3, h⟩ := Option.bind_eq_some_iff.mp h
  replace h := xUt_ok h
  rcases h with ⟨P1, hr9, h⟩ | ⟨i8, P8, rfl, rfl⟩
  · subst hr9
    refine x_callS (c_X10_needWithin hl e3) dX10_say_58 cw_X10_needWithin wl_X10_67 ws_X10_needWithin rfl (by omega) (by decide) rfl (Nat.le_of_ble_eq_true rfl) rfl (fun v9 P9 hq9 => ?_) (fun i9 P9 hq9 => by cases hq9)
    cases hq9
    refine x_aload_nr dX10_say_61 rfl ?_
    obtain ⟨v4, e5, h⟩ := Option.bind_eq_some_iff.mp h
    refine k_rA e5 dX10_say_62 f_X10_19 ?_
    obtain ⟨v6, e7, h⟩ := Option.bind_eq_some_iff.mp h
    refine k_rA e7 dX10_say_65 f_X10_25 ?_
    obtain ⟨v8, e9, h⟩ := Option.bind_eq_some_iff.mp h
    refine k_rI e9 dX10_say_68 f_X10_126 ?_
    refine x_bipush 30 dX10_say_71 (by decide) ?_
    obtain ⟨r11, e12, h⟩ := Option.bind_eq_some_iff.mp h
    replace h := xUt_ok h
    rcases h with ⟨P10, hr9, h⟩ | ⟨i8, P8, rfl, rfl⟩
    · subst hr9
      refine x_callS (c_X10_needSpace hl e12) dX10_say_73 cw_X10_needSpace wl_X10_74 ws_X10_needSpace rfl (by omega) (by decide) rfl (Nat.le_of_ble_eq_true rfl) rfl (fun v9 P9 hq9 => ?_) (fun i9 P9 hq9 => by cases hq9)
      cases hq9
      refine x_aload_nr dX10_say_76 rfl ?_
      obtain ⟨v13, e14, h⟩ := Option.bind_eq_some_iff.mp h
      refine k_rA e14 dX10_say_77 f_X10_19 ?_
      obtain ⟨v15, e16, h⟩ := Option.bind_eq_some_iff.mp h
      refine k_rA e16 dX10_say_80 f_X10_25 ?_
      refine x_iload_n dX10_say_83 rfl ?_
      refine x_iload_n dX10_say_84 rfl ?_
      refine x_aload_nr dX10_say_85 rfl ?_
      obtain ⟨v17, e18, h⟩ := Option.bind_eq_some_iff.mp h
      refine k_rA e18 dX10_say_86 f_X10_19 ?_
      obtain ⟨v19, e20, h⟩ := Option.bind_eq_some_iff.mp h
      refine k_rA e20 dX10_say_89 f_X10_42 ?_
      obtain ⟨v21, e22, h⟩ := Option.bind_eq_some_iff.mp h
      refine k_rI e22 dX10_say_92 f_X10_93 ?_
      refine x_iload_n dX10_say_95 rfl ?_
      obtain ⟨_, e27, h⟩ := Option.bind_eq_some_iff.mp h
      obtain ⟨fse27, e27⟩ := kO_ok e27
      obtain ⟨r24, e25, h⟩ := Option.bind_eq_some_iff.mp h
      replace h := xI_ok h
      obtain ⟨v26, P23, rfl, h⟩ := h
      refine x_callV (c_X9_open hl e25) dX10_say_96 cw_X9_open wl_X10_131 wi_X9_open wse_X9_open rfl e27 (by decide) rfl (by omega) (by decide) rfl (Nat.le_of_ble_eq_true rfl) rfl (fun v9 P9 hq9 => ?_) (fun i9 P9 hq9 => by cases hq9)
      cases hq9
      refine x_istore dX10_say_99 (Nat.le_of_ble_eq_true rfl) ?_
      refine x_aload_nr dX10_say_101 rfl ?_
      obtain ⟨v28, e29, h⟩ := Option.bind_eq_some_iff.mp h
      refine k_rA e29 dX10_say_102 f_X10_19 ?_
      obtain ⟨v30, e31, h⟩ := Option.bind_eq_some_iff.mp h
      refine k_rA e31 dX10_say_105 f_X10_25 ?_
      refine x_iload dX10_say_108 rfl ?_
      refine x_iload dX10_say_110 rfl ?_
      refine x_iload dX10_say_112 rfl ?_
      refine x_iload dX10_say_114 rfl ?_
      refine x_iload dX10_say_116 rfl ?_
      obtain ⟨_, e35, h⟩ := Option.bind_eq_some_iff.mp h
      obtain ⟨fse35, e35⟩ := kO_ok e35
      obtain ⟨r33, e34, h⟩ := Option.bind_eq_some_iff.mp h
      replace h := xU_ok h
      obtain ⟨P32, rfl, h⟩ := h
      refine x_callV (c_X9_fill hl e34) dX10_say_118 cw_X9_fill wl_X10_134 wi_X9_fill wse_X9_fill rfl e35 (by decide) rfl (by omega) (by decide) rfl (Nat.le_of_ble_eq_true rfl) rfl (fun v9 P9 hq9 => ?_) (fun i9 P9 hq9 => by cases hq9)
      cases hq9
      refine x_aload_nr dX10_say_121 rfl ?_
      obtain ⟨v36, e37, h⟩ := Option.bind_eq_some_iff.mp h
      refine k_rA e37 dX10_say_122 f_X10_19 ?_
      obtain ⟨v38, e39, h⟩ := Option.bind_eq_some_iff.mp h
      refine k_rA e39 dX10_say_125 f_X10_42 ?_
      obtain ⟨_, e43, h⟩ := Option.bind_eq_some_iff.mp h
      obtain ⟨fse43, e43⟩ := kO_ok e43
      obtain ⟨r41, e42, h⟩ := Option.bind_eq_some_iff.mp h
      replace h := xU_ok h
      obtain ⟨P40, rfl, h⟩ := h
      refine x_callV (c_X1_tellNext hl e42) dX10_say_128 cw_X1_tellNext wl_X10_138 wi_X1_tellNext wse_X1_tellNext rfl e43 (by decide) rfl (by omega) (by decide) rfl (Nat.le_of_ble_eq_true rfl) rfl (fun v9 P9 hq9 => ?_) (fun i9 P9 hq9 => by cases hq9)
      cases hq9
      refine x_iload dX10_say_131 rfl ?_
      cases h
      exact x_iret .int rfl rfl dX10_say_133 hQ
    · exact x_callS (c_X10_needSpace hl e12) dX10_say_73 cw_X10_needSpace wl_X10_74 ws_X10_needSpace rfl (by omega) (by decide) rfl (Nat.le_of_ble_eq_true rfl) rfl (fun v9 P9 hq9 => by cases hq9) (fun i9 P9 hq9 => by cases hq9; exact hQ)
  · exact x_callS (c_X10_needWithin hl e3) dX10_say_58 cw_X10_needWithin wl_X10_67 ws_X10_needWithin rfl (by omega) (by decide) rfl (Nat.le_of_ble_eq_true rfl) rfl (fun v9 P9 hq9 => by cases hq9) (fun i9 P9 hq9 => by cases hq9; exact hQ)
theorem s_X10_say {G : xG} {l : Launch} (hl : l.stackTraces = false) : ∀ n pc env P z, f_X10_say n pc env P = some z → ∀ L st, lay_X10_say pc env = some (L, st) → ∀ Q : xR → xH → Prop, Q z.1 z.2 → Wp G l 10 mX10_say pc L st P Q := by
  intro n
  induction n with
  | zero => intro pc env P z h; cases h
  | succ n ih =>
    intro pc env P z h L st hlay Q hQ
    unfold f_X10_say at h
    split at h
    · cases hlay
      exact t_X10_say_0 hl ih h hQ
    · cases hlay
      exact t_X10_say_52 hl ih h hQ
    · cases h
theorem c_X10_say {G : xG} {l : Launch} (hl : l.stackTraces = false) {n : Nat} {as : List Value} {P : xH} {z : xR × xH} (h : f_X10_say n 0 as P = some z) : Ct G l 10 mX10_say as P (fun r P1 => (r, P1) = z) := by
  cases n with
  | zero => cases h
  | succ n =>
    unfold f_X10_say at h
    split at h
    · exact Ct.of hl (by decide +kernel) wc_X10_say (Nat.le_of_ble_eq_true rfl) (t_X10_say_0 hl (s_X10_say hl _) h rfl)
    all_goals first | (cases h; done) | (rename_i q9 _; exact absurd q9 (by decide)) | (rename_i q9; exact absurd q9 (by decide)) | contradiction
