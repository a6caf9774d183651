/-! QuakeNet.needWord(I)V -/
def b_X10_needWord_0 (n : Nat) (rec : Nat → List Value → xH → xO) (a0 : Nat) (a1 : Int32) (P : xH) : xO :=
  (rA P a0 10 1).bind fun v1 =>
  (rA P v1 7 1).bind fun v3 =>
  (rI P v3 9 3).bind fun v5 =>
  (f_X10_needIndex n 0 [.int a1, .int v5] P).bind fun r8 => xUt r8 fun P7 =>
  some (.inl none, P7)
def lay_X10_needWord : Nat → List Value → Option (xL × List Value)
  | 0, [a0, a1] => some ([some a0, some a1], [])
  | _, _ => none
def f_X10_needWord : Nat → Nat → List Value → xH → xO
  | 0 => fun _ _ _ => none
  | n + 1 => fun pc env P => match pc, env with
    | 0, [.ref a0, .int a1] => b_X10_needWord_0 n (f_X10_needWord n) a0 a1 P
    | _, _ => none
set_option maxHeartbeats 2000000 in
set_option maxRecDepth 20000 in
theorem t_X10_needWord_0 {G : xG} {l : Launch} (hl : l.stackTraces = false) {n : Nat} {rec : Nat → List Value → xH → xO} (hrec : ∀ pc env P z, rec pc env P = some z → ∀ L st, lay_X10_needWord pc env = some (L, st) → ∀ Q : xR → xH → Prop, Q z.1 z.2 → Wp G l 9 mX10_needWord pc L st P Q) {a0 a1} {P : xH} {z : xR × xH} (h : b_X10_needWord_0 n rec a0 a1 P = some z) {Q : xR → xH → Prop} (hQ : Q z.1 z.2) : Wp G l 9 mX10_needWord 0 [some (.ref a0), some (.int a1)] [] P Q := by
  unfold b_X10_needWord_0 at h
  refine x_iload_n dX10_needWord_0 rfl ?_
  refine x_aload_nr dX10_needWord_1 rfl ?_
  obtain ⟨v1, e2, h⟩ := Option.bind_eq_some_iff.mp h
  refine k_rA e2 dX10_needWord_2 f_X10_19 ?_
  obtain ⟨v3, e4, h⟩ := Option.bind_eq_some_iff.mp h
  refine k_rA e4 dX10_needWord_5 f_X10_25 ?_
  obtain ⟨v5, e6, h⟩ := Option.bind_eq_some_iff.mp h
  refine k_rI e6 dX10_needWord_8 f_X10_126 ?_
  obtain ⟨r8, e9, h⟩ := Option.bind_eq_some_iff.mp h
  replace h := xUt_ok h
  rcases h with ⟨P7, hr9, h⟩ | ⟨i8, P8, rfl, rfl⟩
  · subst hr9
    refine x_callS (c_X10_needIndex hl e9) dX10_needWord_11 cw_X10_needIndex wl_X10_87 ws_X10_needIndex rfl (by omega) (by decide) rfl (Nat.le_of_ble_eq_true rfl) rfl (fun v9 P9 hq9 => ?_) (fun i9 P9 hq9 => by cases hq9)
    cases hq9
    cases h
    exact x_ret rfl dX10_needWord_14 hQ
  · exact x_callS (c_X10_needIndex hl e9) dX10_needWord_11 cw_X10_needIndex wl_X10_87 ws_X10_needIndex rfl (by omega) (by decide) rfl (Nat.le_of_ble_eq_true rfl) rfl (fun v9 P9 hq9 => by cases hq9) (fun i9 P9 hq9 => by cases hq9; exact hQ)
theorem s_X10_needWord {G : xG} {l : Launch} (hl : l.stackTraces = false) : ∀ n pc env P z, f_X10_needWord n pc env P = some z → ∀ L st, lay_X10_needWord pc env = some (L, st) → ∀ Q : xR → xH → Prop, Q z.1 z.2 → Wp G l 9 mX10_needWord pc L st P Q := by
  intro n
  induction n with
  | zero => intro pc env P z h; cases h
  | succ n ih =>
    intro pc env P z h L st hlay Q hQ
    unfold f_X10_needWord at h
    split at h
    · cases hlay
      exact t_X10_needWord_0 hl ih h hQ
    · cases h
theorem c_X10_needWord {G : xG} {l : Launch} (hl : l.stackTraces = false) {n : Nat} {as : List Value} {P : xH} {z : xR × xH} (h : f_X10_needWord n 0 as P = some z) : Ct G l 9 mX10_needWord as P (fun r P1 => (r, P1) = z) := by
  cases n with
  | zero => cases h
  | succ n =>
    unfold f_X10_needWord at h
    split at h
    · exact Ct.of hl (by decide +kernel) wc_X10_needWord (Nat.le_of_ble_eq_true rfl) (t_X10_needWord_0 hl (s_X10_needWord hl _) h rfl)
    all_goals first | (cases h; done) | (rename_i q9 _; exact absurd q9 (by decide)) | (rename_i q9; exact absurd q9 (by decide)) | contradiction
/-! QuakeNet$Words.link(II)V -/
def b_X9_link_0 (n : Nat) (rec : Nat → List Value → xH → xO) (a0 : Nat) (a1 : Int32) (a2 : Int32) (P : xH) : xO :=
  if a1 < 0 then
    some (.inl none, P)
  else
    if 30 ≤ a1 then
      some (.inl none, P)
    else
      (rA P a0 9 0).bind fun v1 =>
      (aA P v1 8).bind fun v3 =>
      (sI P v3 a1 a2).bind fun P5 =>
      (rA P5 a0 9 1).bind fun v7 =>
      (aI P5 v7 a2).bind fun v9 =>
      (sI P5 v7 a2 ((v9 ||| ((1 <<< (a1 &&& 31)))))).bind fun P11 =>
      some (.inl none, P11)
def lay_X9_link : Nat → List Value → Option (xL × List Value)
  | 0, [a0, a1, a2] => some ([some a0, some a1, some a2], [])
  | _, _ => none
def f_X9_link : Nat → Nat → List Value → xH → xO
  | 0 => fun _ _ _ => none
  | n + 1 => fun pc env P => match pc, env with
    | 0, [.ref a0, .int a1, .int a2] => b_X9_link_0 n (f_X9_link n) a0 a1 a2 P
    | _, _ => none
set_option maxHeartbeats 2000000 in
set_option maxRecDepth 20000 in
theorem t_X9_link_0 {G : xG} {l : Launch} (hl : l.stackTraces = false) {n : Nat} {rec : Nat → List Value → xH → xO} (hrec : ∀ pc env P z, rec pc env P = some z → ∀ L st, lay_X9_link pc env = some (L, st) → ∀ Q : xR → xH → Prop, Q z.1 z.2 → Wp G l 3 mX9_link pc L st P Q) {a0 a1 a2} {P : xH} {z : xR × xH} (h : b_X9_link_0 n rec a0 a1 a2 P = some z) {Q : xR → xH → Prop} (hQ : Q z.1 z.2) : Wp G l 3 mX9_link 0 [some (.ref a0), some (.int a1), some (.int a2)] [] P Q := by
  unfold b_X9_link_0 at h
  refine x_iload_n dX9_link_0 rfl ?_
  refine x_if_lt 32 dX9_link_1 (by decide) (fun q14 => ?_) (fun q14 => ?_)
  · rw [if_pos q14] at h
    cases h
    exact x_ret rfl dX9_link_32 hQ
  · rw [if_neg q14] at h
    refine x_iload_n dX9_link_4 rfl ?_
    refine x_bipush 30 dX9_link_5 (by decide) ?_
    refine x_icmp_ge 32 dX9_link_7 (by decide) (fun q13 => ?_) (fun q13 => ?_)
    · rw [if_pos q13] at h
      cases h
      exact x_ret rfl dX9_link_32 hQ
    · rw [if_neg q13] at h
      refine x_aload_nr dX9_link_10 rfl ?_
      obtain ⟨v1, e2, h⟩ := Option.bind_eq_some_iff.mp h
      refine k_rA e2 dX9_link_11 f_X9_13 ?_
      refine x_bipush 8 dX9_link_14 (by decide) ?_
      obtain ⟨v3, e4, h⟩ := Option.bind_eq_some_iff.mp h
      refine k_aA e4 dX9_link_16 ?_
      refine x_iload_n dX9_link_17 rfl ?_
      refine x_iload_n dX9_link_18 rfl ?_
      obtain ⟨P5, e6, h⟩ := Option.bind_eq_some_iff.mp h
      refine k_sI e6 dX9_link_19 ?_
      refine x_aload_nr dX9_link_20 rfl ?_
      obtain ⟨v7, e8, h⟩ := Option.bind_eq_some_iff.mp h
      refine k_rA e8 dX9_link_21 f_X9_16 ?_
      refine x_iload_n dX9_link_24 rfl ?_
      refine x_dup2 dX9_link_25 rfl rfl ?_
      obtain ⟨v9, e10, h⟩ := Option.bind_eq_some_iff.mp h
      refine k_aI e10 dX9_link_26 ?_
      refine x_iconst 1 dX9_link_27 (by decide) ?_
      refine x_iload_n dX9_link_28 rfl ?_
      refine x_ishl dX9_link_29 ?_
      refine x_ior dX9_link_30 ?_
      obtain ⟨P11, e12, h⟩ := Option.bind_eq_some_iff.mp h
      refine k_sI e12 dX9_link_31 ?_
      cases h
      exact x_ret rfl dX9_link_32 hQ
theorem s_X9_link {G : xG} {l : Launch} (hl : l.stackTraces = false) : ∀ n pc env P z, f_X9_link n pc env P = some z → ∀ L st, lay_X9_link pc env = some (L, st) → ∀ Q : xR → xH → Prop, Q z.1 z.2 → Wp G l 3 mX9_link pc L st P Q := by
  intro n
  induction n with
  | zero => intro pc env P z h; cases h
  | succ n ih =>
    intro pc env P z h L st hlay Q hQ
    unfold f_X9_link at h
    split at h
    · cases hlay
      exact t_X9_link_0 hl ih h hQ
    · cases h
theorem c_X9_link {G : xG} {l : Launch} (hl : l.stackTraces = false) {n : Nat} {as : List Value} {P : xH} {z : xR × xH} (h : f_X9_link n 0 as P = some z) : Ct G l 3 mX9_link as P (fun r P1 => (r, P1) = z) := by
  cases n with
  | zero => cases h
  | succ n =>
    unfold f_X9_link at h
    split at h
    · exact Ct.of hl (by decide +kernel) wc_X9_link (Nat.le_of_ble_eq_true rfl) (t_X9_link_0 hl (s_X9_link hl _) h rfl)
    all_goals first | (cases h; done) | (rename_i q9 _; exact absurd q9 (by decide)) | (rename_i q9; exact absurd q9 (by decide)) | contradiction
/-! QuakeNet.undo(III)I -/
def b_X10_undo_0 (n : Nat) (rec : Nat → List Value → xH → xO) (a0 : Nat) (a1 : Int32) (a2 : Int32) (a3 : Int32) (P : xH) : xO :=
  (kO P a0 10).bind fun _ =>
  (f_X10_needPhone n 0 [.ref a0, .int a1] P).bind fun r2 => xUt r2 fun P1 =>
  (kO P1 a0 10).bind fun _ =>
  (f_X10_needWord n 0 [.ref a0, .int a3] P1).bind fun r6 => xUt r6 fun P5 =>
  (f_X10_needWithin n 0 [.int a2, .int 1, .int 200] P5).bind fun r10 => xUt r10 fun P9 =>
  (rA P9 a0 10 1).bind fun v12 =>
  (rA P9 v12 7 1).bind fun v14 =>
  (rA P9 v14 9 0).bind fun v16 =>
  (aA P9 v16 0).bind fun v18 =>
  (aI P9 v18 a3).bind fun v20 =>
  (f_X10_needWithin n 0 [.int v20, .int 0, .int 4] P9).bind fun r23 => xUt r23 fun P22 =>
  (rA P22 a0 10 1).bind fun v25 =>
  (rA P22 v25 7 1).bind fun v27 =>
  (rI P22 v27 9 3).bind fun v29 =>
  (f_X10_needSpace n 0 [.int v29, .int 30] P22).bind fun r32 => xUt r32 fun P31 =>
  (rA P31 a0 10 1).bind fun v34 =>
  (rA P31 v34 7 1).bind fun v36 =>
  (rA P31 a0 10 1).bind fun v38 =>
  (rA P31 v38 7 3).bind fun v40 =>
  (rI P31 v40 1 2).bind fun v42 =>
  (kO P31 v36 9).bind fun _ =>
  (f_X9_open n 0 [.ref v36, .int 5, .int a1, .int v42, .int a2] P31).bind fun r45 => xI r45 fun v47 P44 =>
  (rA P44 a0 10 1).bind fun v49 =>
  (rA P44 v49 7 1).bind fun v51 =>
  (kO P44 v51 9).bind fun _ =>
  (f_X9_link n 0 [.ref v51, .int v47, .int a3] P44).bind fun r54 => xU r54 fun P53 =>
  (rA P53 a0 10 1).bind fun v57 =>
  (rA P53 v57 7 3).bind fun v59 =>
  (kO P53 v59 1).bind fun _ =>
  (f_X1_tellNext n 0 [.ref v59] P53).bind fun r62 => xU r62 fun P61 =>
  some (.inl (some (.int v47)), P61)
def lay_X10_undo : Nat → List Value → Option (xL × List Value)
  | 0, [a0, a1, a2, a3] => some ([some a0, some a1, some a2, some a3, none], [])
  | _, _ => none
def f_X10_undo : Nat → Nat → List Value → xH → xO
  | 0 => fun _ _ _ => none
  | n + 1 => fun pc env P => match pc, env with
    | 0, [.ref a0, .int a1, .int a2, .int a3] => b_X10_undo_0 n (f_X10_undo n) a0 a1 a2 a3 P
    | _, _ => none
set_option maxHeartbeats 2000000 in
set_option maxRecDepth 20000 in
theorem t_X10_undo_0 {G : xG} {l : Launch} (hl : l.stackTraces = false) {n : Nat} {rec : Nat → List Value → xH → xO} (hrec : ∀ pc env P z, rec pc env P = some z → ∀ L st, lay_X10_undo pc env = some (L, st) → ∀ Q : xR → xH → Prop, Q z.1 z.2 → Wp G l 10 mX10_undo pc L st P Q) {a0 a1 a2 a3} {P : xH} {z : xR × xH} (h : b_X10_undo_0 n rec a0 a1 a2 a3 P = some z) {Q : xR → xH → Prop} (hQ : Q z.1 z.2) : Wp G l 10 mX10_undo 0 [some (.ref a0), some (.int a1), some (.int a2), some (.int a3), none] [] P Q := by
  unfold b_X10_undo_0 at h
  refine x_aload_nr dX10_undo_0 rfl ?_
  refine x_iload_n dX10_undo_1 rfl ?_
  obtain ⟨_, e4, h⟩ := Option.bind_eq_some_iff.mp h
  obtain ⟨fse4, e4⟩ := kO_ok e4
  obtain ⟨r2, e3, h⟩ := Option.bind_eq_some_iff.mp h
  replace h := xUt_ok h
  rcases h with ⟨P1, hr9, h⟩ | ⟨i8, P8, rfl, rfl⟩
  · subst hr9
    refine x_callV (c_X10_needPhone hl e3) dX10_undo_2 cw_X10_needPhone wl_X10_90 wi_X10_needPhone wse_X10_needPhone rfl e4 (by decide) rfl (by omega) (by decide) rfl (Nat.le_of_ble_eq_true rfl) rfl (fun v9 P9 hq9 => ?_) (fun i9 P9 hq9 => by cases hq9)
    cases hq9
    refine x_aload_nr dX10_undo_5 rfl ?_
    refine x_iload_n dX10_undo_6 rfl ?_
    obtain ⟨_, e8, h⟩ := Option.bind_eq_some_iff.mp h
    obtain ⟨fse8, e8⟩ := kO_ok e8
    obtain ⟨r6, e7, h⟩ := Option.bind_eq_some_iff.mp h
    replace h := xUt_ok h
    rcases h with ⟨P5, hr9, h⟩ | ⟨i8, P8, rfl, rfl⟩
    · subst hr9
      refine x_callV (c_X10_needWord hl e7) dX10_undo_7 cw_X10_needWord wl_X10_141 wi_X10_needWord wse_X10_needWord rfl e8 (by decide) rfl (by omega) (by decide) rfl (Nat.le_of_ble_eq_true rfl) rfl (fun v9 P9 hq9 => ?_) (fun i9 P9 hq9 => by cases hq9)
      cases hq9
      refine x_iload_n dX10_undo_10 rfl ?_
      refine x_iconst 1 dX10_undo_11 (by decide) ?_
      refine x_sipush 200 dX10_undo_12 (by decide) ?_
      obtain ⟨r10, e11, h⟩ := Option.bind_eq_some_iff.mp h
      replace h := xUt_ok h
      rcases h with ⟨P9, hr9, h⟩ | ⟨i8, P8, rfl, rfl⟩
      · subst hr9
        refine x_callS (c_X10_needWithin hl e11) dX10_undo_15 cw_X10_needWithin wl_X10_67 ws_X10_needWithin rfl (by omega) (by decide) rfl (Nat.le_of_ble_eq_true rfl) rfl (fun v9 P9 hq9 => ?_) (fun i9 P9 hq9 => by cases hq9)
        cases hq9
        refine x_aload_nr dX10_undo_18 rfl ?_
        obtain ⟨v12, e13, h⟩ := Option.bind_eq_some_iff.mp h
        refine k_rA e13 dX10_undo_19 f_X10_19 ?_
        obtain ⟨v14, e15, h⟩ := Option.bind_eq_some_iff.mp h
        refine k_rA e15 dX10_undo_22 f_X10_25 ?_
        obtain ⟨v16, e17, h⟩ := Option.bind_eq_some_iff.mp h
        refine k_rA e17 dX10_undo_25 f_X10_144 ?_
        refine x_iconst 0 dX10_undo_28 (by decide) ?_
        obtain ⟨v18, e19, h⟩ := Option.bind_eq_some_iff.mp h
        refine k_aA e19 dX10_undo_29 ?_
        refine x_iload_n dX10_undo_30 rfl ?_
        obtain ⟨v20, e21, h⟩ := Option.bind_eq_some_iff.mp h
        refine k_aI e21 dX10_undo_31 ?_
        refine x_iconst 0 dX10_undo_32 (by decide) ?_
        refine x_iconst 4 dX10_undo_33 (by decide) ?_
        obtain ⟨r23, e24, h⟩ := Option.bind_eq_some_iff.mp h
        replace h := xUt_ok h
        rcases h with ⟨P22, hr9, h⟩ | ⟨i8, P8, rfl, rfl⟩
        · subst hr9
          refine x_callS (c_X10_needWithin hl e24) dX10_undo_34 cw_X10_needWithin wl_X10_67 ws_X10_needWithin rfl (by omega) (by decide) rfl (Nat.le_of_ble_eq_true rfl) rfl (fun v9 P9 hq9 => ?_) (fun i9 P9 hq9 => by cases hq9)
          cases hq9
          refine x_aload_nr dX10_undo_37 rfl ?_
          obtain ⟨v25, e26, h⟩ := Option.bind_eq_some_iff.mp h
          refine k_rA e26 dX10_undo_38 f_X10_19 ?_
          obtain ⟨v27, e28, h⟩ := Option.bind_eq_some_iff.mp h
          refine k_rA e28 dX10_undo_41 f_X10_25 ?_
          obtain ⟨v29, e30, h⟩ := Option.bind_eq_some_iff.mp h
          refine k_rI e30 dX10_undo_44 f_X10_126 ?_
          refine x_bipush 30 dX10_undo_47 (by decide) ?_
          obtain ⟨r32, e33, h⟩ := Option.bind_eq_some_iff.mp h
          replace h := xUt_ok h
          rcases h with ⟨P31, hr9, h⟩ | ⟨i8, P8, rfl, rfl⟩
          · subst hr9
            refine x_callS (c_X10_needSpace hl e33) dX10_undo_49 cw_X10_needSpace wl_X10_74 ws_X10_needSpace rfl (by omega) (by decide) rfl (Nat.le_of_ble_eq_true rfl) rfl (fun v9 P9 hq9 => ?_) (fun i9 P9 hq9 => by cases hq9)
            cases hq9
            refine x_aload_nr dX10_undo_52 rfl ?_
            obtain ⟨v34, e35, h⟩ := Option.bind_eq_some_iff.mp h
            refine k_rA e35 dX10_undo_53 f_X10_19 ?_
            obtain ⟨v36, e37, h⟩ := Option.bind_eq_some_iff.mp h
            refine k_rA e37 dX10_undo_56 f_X10_25 ?_
            refine x_iconst 5 dX10_undo_59 (by decide) ?_
            refine x_iload_n dX10_undo_60 rfl ?_
            refine x_aload_nr dX10_undo_61 rfl ?_
            obtain ⟨v38, e39, h⟩ := Option.bind_eq_some_iff.mp h
            refine k_rA e39 dX10_undo_62 f_X10_19 ?_
            obtain ⟨v40, e41, h⟩ := Option.bind_eq_some_iff.mp h
            refine k_rA e41 dX10_undo_65 f_X10_42 ?_
            obtain ⟨v42, e43, h⟩ := Option.bind_eq_some_iff.mp h
            refine k_rI e43 dX10_undo_68 f_X10_93 ?_
            refine x_iload_n dX10_undo_71 rfl ?_
            obtain ⟨_, e48, h⟩ := Option.bind_eq_some_iff.mp h
            obtain ⟨fse48, e48⟩ := kO_ok e48
            obtain ⟨r45, e46, h⟩ := Option.bind_eq_some_iff.mp h
            replace h := xI_ok h
            obtain ⟨v47, P44, rfl, h⟩ := h
            refine x_callV (c_X9_open hl e46) dX10_undo_72 cw_X9_open wl_X10_131 wi_X9_open wse_X9_open rfl e48 (by decide) rfl (by omega) (by decide) rfl (Nat.le_of_ble_eq_true rfl) rfl (fun v9 P9 hq9 => ?_) (fun i9 P9 hq9 => by cases hq9)
            cases hq9
            refine x_istore dX10_undo_75 (Nat.le_of_ble_eq_true rfl) ?_
            refine x_aload_nr dX10_undo_77 rfl ?_
            obtain ⟨v49, e50, h⟩ := Option.bind_eq_some_iff.mp h
            refine k_rA e50 dX10_undo_78 f_X10_19 ?_
            obtain ⟨v51, e52, h⟩ := Option.bind_eq_some_iff.mp h
            refine k_rA e52 dX10_undo_81 f_X10_25 ?_
            refine x_iload dX10_undo_84 rfl ?_
            refine x_iload_n dX10_undo_86 rfl ?_
            obtain ⟨_, e56, h⟩ := Option.bind_eq_some_iff.mp h
            obtain ⟨fse56, e56⟩ := kO_ok e56
            obtain ⟨r54, e55, h⟩ := Option.bind_eq_some_iff.mp h
            replace h := xU_ok h
            obtain ⟨P53, rfl, h⟩ := h
            refine x_callV (c_X9_link hl e55) dX10_undo_87 cw_X9_link wl_X10_148 wi_X9_link wse_X9_link rfl e56 (by decide) rfl (by omega) (by decide) rfl (Nat.le_of_ble_eq_true rfl) rfl (fun v9 P9 hq9 => ?_) (fun i9 P9 hq9 => by cases hq9)
            cases hq9
            refine x_aload_nr dX10_undo_90 rfl ?_
            obtain ⟨v57, e58, h⟩ := Option.bind_eq_some_iff.mp h
            refine k_rA e58 dX10_undo_91 f_X10_19 ?_
            obtain ⟨v59, e60, h⟩ := Option.bind_eq_some_iff.mp h
            refine k_rA e60 dX10_undo_94 f_X10_42 ?_
            obtain ⟨_, e64, h⟩ := Option.bind_eq_some_iff.mp h
            obtain ⟨fse64, e64⟩ := kO_ok e64
            obtain ⟨r62, e63, h⟩ := Option.bind_eq_some_iff.mp h
            replace h := xU_ok h
            obtain ⟨P61, rfl, h⟩ := h
            refine x_callV (c_X1_tellNext hl e63) dX10_undo_97 cw_X1_tellNext wl_X10_138 wi_X1_tellNext wse_X1_tellNext rfl e64 (by decide) rfl (by omega) (by decide) rfl (Nat.le_of_ble_eq_true rfl) rfl (fun v9 P9 hq9 => ?_) (fun i9 P9 hq9 => by cases hq9)
            cases hq9
            refine x_iload dX10_undo_100 rfl ?_
            cases h
            exact x_iret .int rfl rfl dX10_undo_102 hQ
          · exact x_callS (c_X10_needSpace hl e33) dX10_undo_49 cw_X10_needSpace wl_X10_74 ws_X10_needSpace rfl (by omega) (by decide) rfl (Nat.le_of_ble_eq_true rfl) rfl (fun v9 P9 hq9 => by cases hq9) (fun i9 P9 hq9 => by cases hq9; exact hQ)
        · exact x_callS (c_X10_needWithin hl e24) dX10_undo_34 cw_X10_needWithin wl_X10_67 ws_X10_needWithin rfl (by omega) (by decide) rfl (Nat.le_of_ble_eq_true rfl) rfl (fun v9 P9 hq9 => by cases hq9) (fun i9 P9 hq9 => by cases hq9; exact hQ)
      · exact x_callS (c_X10_needWithin hl e11) dX10_undo_15 cw_X10_needWithin wl_X10_67 ws_X10_needWithin rfl (by omega) (by decide) rfl (Nat.le_of_ble_eq_true rfl) rfl (fun v9 P9 hq9 => by cases hq9) (fun i9 P9 hq9 => by cases hq9; exact hQ)
    · exact x_callV (c_X10_needWord hl e7) dX10_undo_7 cw_X10_needWord wl_X10_141 wi_X10_needWord wse_X10_needWord rfl e8 (by decide) rfl (by omega) (by decide) rfl (Nat.le_of_ble_eq_true rfl) rfl (fun v9 P9 hq9 => by cases hq9) (fun i9 P9 hq9 => by cases hq9; exact hQ)
  · exact x_callV (c_X10_needPhone hl e3) dX10_undo_2 cw_X10_needPhone wl_X10_90 wi_X10_needPhone wse_X10_needPhone rfl e4 (by decide) rfl (by omega) (by decide) rfl (Nat.le_of_ble_eq_true rfl) rfl (fun v9 P9 hq9 => by cases hq9) (fun i9 P9 hq9 => by cases hq9; exact hQ)
theorem s_X10_undo {G : xG} {l : Launch} (hl : l.stackTraces = false) : ∀ n pc env P z, f_X10_undo n pc env P = some z → ∀ L st, lay_X10_undo pc env = some (L, st) → ∀ Q : xR → xH → Prop, Q z.1 z.2 → Wp G l 10 mX10_undo pc L st P Q := by
  intro n
  induction n with
  | zero => intro pc env P z h; cases h
  | succ n ih =>
    intro pc env P z h L st hlay Q hQ
    unfold f_X10_undo at h
    split at h
    · cases hlay
      exact t_X10_undo_0 hl ih h hQ
    · cases h
theorem c_X10_undo {G : xG} {l : Launch} (hl : l.stackTraces = false) {n : Nat} {as : List Value} {P : xH} {z : xR × xH} (h : f_X10_undo n 0 as P = some z) : Ct G l 10 mX10_undo as P (fun r P1 => (r, P1) = z) := by
  cases n with
  | zero => cases h
  | succ n =>
    unfold f_X10_undo at h
    split at h
    · exact Ct.of hl (by decide +kernel) wc_X10_undo (Nat.le_of_ble_eq_true rfl) (t_X10_undo_0 hl (s_X10_undo hl _) h rfl)
    all_goals first | (cases h; done) | (rename_i q9 _; exact absurd q9 (by decide)) | (rename_i q9; exact absurd q9 (by decide)) | contradiction
/-! QuakeNet$Words.isDead(II)Z -/
def b_X9_isDead_0 (n : Nat) (rec : Nat → List Value → xH → xO) (a0 : Nat) (a1 : Int32) (a2 : Int32) (P : xH) : xO :=
  (rA P a0 9 0).bind fun v1 =>
  (aA P v1 2).bind fun v3 =>
  (aI P v3 a1).bind fun v5 =>
  (rA P a0 9 0).bind fun v7 =>
  (aA P v7 3).bind fun v9 =>
  (aI P v9 a1).bind fun v11 =>
  if a2 < ((v5 + v11)) then
    some (.inl (some (.int 0)), P)
  else
    some (.inl (some (.int 1)), P)
def lay_X9_isDead : Nat → List Value → Option (xL × List Value)
  | 0, [a0, a1, a2] => some ([some a0, some a1, some a2], [])
  | _, _ => none
def f_X9_isDead : Nat → Nat → List Value → xH → xO
  | 0 => fun _ _ _ => none
  | n + 1 => fun pc env P => match pc, env with
    | 0, [.ref a0, .int a1, .int a2] => b_X9_isDead_0 n (f_X9_isDead n) a0 a1 a2 P
    | _, _ => none
set_option maxHeartbeats 2000000 in
set_option maxRecDepth 20000 in
theorem t_X9_isDead_0 {G : xG} {l : Launch} (hl : l.stackTraces = false) {n : Nat} {rec : Nat → List Value → xH → xO} (hrec : ∀ pc env P z, rec pc env P = some z → ∀ L st, lay_X9_isDead pc env = some (L, st) → ∀ Q : xR → xH → Prop, Q z.1 z.2 → Wp G l 3 mX9_isDead pc L st P Q) {a0 a1 a2} {P : xH} {z : xR × xH} (h : b_X9_isDead_0 n rec a0 a1 a2 P = some z) {Q : xR → xH → Prop} (hQ : Q z.1 z.2) : Wp G l 3 mX9_isDead 0 [some (.ref a0), some (.int a1), some (.int a2)] [] P Q := by
  unfold b_X9_isDead_0 at h
  refine x_iload_n dX9_isDead_0 rfl ?_
  refine x_aload_nr dX9_isDead_1 rfl ?_
  obtain ⟨v1, e2, h⟩ := Option.bind_eq_some_iff.mp h
  refine k_rA e2 dX9_isDead_2 f_X9_13 ?_
  refine x_iconst 2 dX9_isDead_5 (by decide) ?_
  obtain ⟨v3, e4, h⟩ := Option.bind_eq_some_iff.mp h
  refine k_aA e4 dX9_isDead_6 ?_
  refine x_iload_n dX9_isDead_7 rfl ?_
  obtain ⟨v5, e6, h⟩ := Option.bind_eq_some_iff.mp h
  refine k_aI e6 dX9_isDead_8 ?_
  refine x_aload_nr dX9_isDead_9 rfl ?_
  obtain ⟨v7, e8, h⟩ := Option.bind_eq_some_iff.mp h
  refine k_rA e8 dX9_isDead_10 f_X9_13 ?_
  refine x_iconst 3 dX9_isDead_13 (by decide) ?_
  obtain ⟨v9, e10, h⟩ := Option.bind_eq_some_iff.mp h
  refine k_aA e10 dX9_isDead_14 ?_
  refine x_iload_n dX9_isDead_15 rfl ?_
  obtain ⟨v11, e12, h⟩ := Option.bind_eq_some_iff.mp h
  refine k_aI e12 dX9_isDead_16 ?_
  refine x_iadd dX9_isDead_17 ?_
  refine x_icmp_lt 25 dX9_isDead_18 (by decide) (fun q13 => ?_) (fun q13 => ?_)
  · rw [if_pos q13] at h
    refine x_iconst 0 dX9_isDead_25 (by decide) ?_
    cases h
    exact x_iret .boolean rfl rfl dX9_isDead_26 hQ
  · rw [if_neg q13] at h
    refine x_iconst 1 dX9_isDead_21 (by decide) ?_
    refine x_goto 26 dX9_isDead_22 (by decide) ?_
    cases h
    exact x_iret .boolean rfl rfl dX9_isDead_26 hQ
theorem s_X9_isDead {G : xG} {l : Launch} (hl : l.stackTraces = false) : ∀ n pc env P z, f_X9_isDead n pc env P = some z → ∀ L st, lay_X9_isDead pc env = some (L, st) → ∀ Q : xR → xH → Prop, Q z.1 z.2 → Wp G l 3 mX9_isDead pc L st P Q := by
  intro n
  induction n with
  | zero => intro pc env P z h; cases h
  | succ n ih =>
    intro pc env P z h L st hlay Q hQ
    unfold f_X9_isDead at h
    split at h
    · cases hlay
      exact t_X9_isDead_0 hl ih h hQ
    · cases h
theorem c_X9_isDead {G : xG} {l : Launch} (hl : l.stackTraces = false) {n : Nat} {as : List Value} {P : xH} {z : xR × xH} (h : f_X9_isDead n 0 as P = some z) : Ct G l 3 mX9_isDead as P (fun r P1 => (r, P1) = z) := by
  cases n with
  | zero => cases h
  | succ n =>
    unfold f_X9_isDead at h
    split at h
    · exact Ct.of hl (by decide +kernel) wc_X9_isDead (Nat.le_of_ble_eq_true rfl) (t_X9_isDead_0 hl (s_X9_isDead hl _) h rfl)
    all_goals first | (cases h; done) | (rename_i q9 _; exact absurd q9 (by decide)) | (rename_i q9; exact absurd q9 (by decide)) | contradiction
/-! QuakeNet$Net.forgetDead()V -/
def b_X1_forgetDead_0 (n : Nat) (rec : Nat → List Value → xH → xO) (a0 : Nat) (P : xH) : xO :=
  rec 2 [.ref a0, .int 0] P
def b_X1_forgetDead_2 (n : Nat) (rec : Nat → List Value → xH → xO) (a0 : Nat) (a1 : Int32) (P : xH) : xO :=
  (rI P a0 1 4).bind fun v1 =>
  if v1 ≤ a1 then
    some (.inl none, P)
  else
    (rA P a0 1 9).bind fun v3 =>
    (aI P v3 a1).bind fun v5 =>
    if v5 ≤ 0 then
      rec 2 [.ref a0, .int ((a1 + 1))] P
    else
      (rA P a0 1 0).bind fun v7 =>
      (rI P a0 1 2).bind fun v9 =>
      (kO P v7 9).bind fun _ =>
      (f_X9_isDead n 0 [.ref v7, .int a1, .int v9] P).bind fun r12 => xI r12 fun v14 P11 =>
      if v14 = 0 then
        rec 2 [.ref a0, .int ((a1 + 1))] P11
      else
        rec 36 [.ref a0, .int a1, .int 0] P11
def b_X1_forgetDead_36 (n : Nat) (rec : Nat → List Value → xH → xO) (a0 : Nat) (a1 : Int32) (a2 : Int32) (P : xH) : xO :=
  (rI P a0 1 3).bind fun v1 =>
  if v1 ≤ a2 then
    rec 2 [.ref a0, .int ((a1 + 1))] P
  else
    (kO P a0 1).bind fun _ =>
    (f_X1_lose n 0 [.ref a0, .int a2, .int a1] P).bind fun r4 => xU r4 fun P3 =>
    rec 36 [.ref a0, .int a1, .int ((a2 + 1))] P3
def lay_X1_forgetDead : Nat → List Value → Option (xL × List Value)
  | 0, [a0] => some ([some a0, none, none], [])
  | 2, [a0, a1] => some ([some a0, some a1, none], [])
  | 36, [a0, a1, a2] => some ([some a0, some a1, some a2], [])
  | _, _ => none
def f_X1_forgetDead : Nat → Nat → List Value → xH → xO
  | 0 => fun _ _ _ => none
  | n + 1 => fun pc env P => match pc, env with
    | 0, [.ref a0] => b_X1_forgetDead_0 n (f_X1_forgetDead n) a0 P
    | 2, [.ref a0, .int a1] => b_X1_forgetDead_2 n (f_X1_forgetDead n) a0 a1 P
    | 36, [.ref a0, .int a1, .int a2] => b_X1_forgetDead_36 n (f_X1_forgetDead n) a0 a1 a2 P
    | _, _ => none
set_option maxHeartbeats 2000000 in
set_option maxRecDepth 20000 in
theorem t_X1_forgetDead_0 {G : xG} {l : Launch} (hl : l.stackTraces = false) {n : Nat} {rec : Nat → List Value → xH → xO} (hrec : ∀ pc env P z, rec pc env P = some z → ∀ L st, lay_X1_forgetDead pc env = some (L, st) → ∀ Q : xR → xH → Prop, Q z.1 z.2 → Wp G l 5 mX1_forgetDead pc L st P Q) {a0} {P : xH} {z : xR × xH} (h : b_X1_forgetDead_0 n rec a0 P = some z) {Q : xR → xH → Prop} (hQ : Q z.1 z.2) : Wp G l 5 mX1_forgetDead 0 [some (.ref a0), none, none] [] P Q := by
  unfold b_X1_forgetDead_0 at h
  refine x_iconst 0 dX1_forgetDead_0 (by decide) ?_
  refine x_istore_n dX1_forgetDead_1 (Nat.le_of_ble_eq_true rfl) ?_
  exact Wp.mask [true, true, false] (hrec 2 _ _ _ h _ _ rfl _ hQ)
set_option maxHeartbeats 2000000 in
set_option maxRecDepth 20000 in
theorem t_X1_forgetDead_2 {G : xG} {l : Launch} (hl : l.stackTraces = false) {n : Nat} {rec : Nat → List Value → xH → xO} (hrec : ∀ pc env P z, rec pc env P = some z → ∀ L st, lay_X1_forgetDead pc env = some (L, st) → ∀ Q : xR → xH → Prop, Q z.1 z.2 → Wp G l 5 mX1_forgetDead pc L st P Q) {a0 a1} {P : xH} {z : xR × xH} (h : b_X1_forgetDead_2 n rec a0 a1 P = some z) {Q : xR → xH → Prop} (hQ : Q z.1 z.2) : Wp G l 5 mX1_forgetDead 2 [some (.ref a0), some (.int a1), none] [] P Q := by
  unfold b_X1_forgetDead_2 at h
  refine x_iload_n dX1_forgetDead_2 rfl ?_
  refine x_aload_nr dX1_forgetDead_3 rfl ?_
  obtain ⟨v1, e2, h⟩ := Option.bind_eq_some_iff.mp h
  refine k_rI e2 dX1_forgetDead_4 f_X1_63 ?_
  refine x_icmp_ge 62 dX1_forgetDead_7 (by decide) (fun q18 => ?_) (fun q18 => ?_)
  · rw [if_pos q18] at h
    cases h
    exact x_ret rfl dX1_forgetDead_62 hQ
  · rw [if_neg q18] at h
    refine x_aload_nr dX1_forgetDead_10 rfl ?_
    obtain ⟨v3, e4, h⟩ := Option.bind_eq_some_iff.mp h
    refine k_rA e4 dX1_forgetDead_11 f_X1_27 ?_
    refine x_iload_n dX1_forgetDead_14 rfl ?_
    obtain ⟨v5, e6, h⟩ := Option.bind_eq_some_iff.mp h
    refine k_aI e6 dX1_forgetDead_15 ?_
    refine x_if_le 56 dX1_forgetDead_16 (by decide) (fun q17 => ?_) (fun q17 => ?_)
    · rw [if_pos q17] at h
      refine x_iinc (a1 + 1) dX1_forgetDead_56 rfl (by rfl) ?_
      refine x_goto 2 dX1_forgetDead_59 (by decide) ?_
      exact Wp.mask [true, true, false] (hrec 2 _ _ _ h _ _ rfl _ hQ)
    · rw [if_neg q17] at h
      refine x_aload_nr dX1_forgetDead_19 rfl ?_
      obtain ⟨v7, e8, h⟩ := Option.bind_eq_some_iff.mp h
      refine k_rA e8 dX1_forgetDead_20 f_X1_42 ?_
      refine x_iload_n dX1_forgetDead_23 rfl ?_
      refine x_aload_nr dX1_forgetDead_24 rfl ?_
      obtain ⟨v9, e10, h⟩ := Option.bind_eq_some_iff.mp h
      refine k_rI e10 dX1_forgetDead_25 f_X1_56 ?_
      obtain ⟨_, e15, h⟩ := Option.bind_eq_some_iff.mp h
      obtain ⟨fse15, e15⟩ := kO_ok e15
      obtain ⟨r12, e13, h⟩ := Option.bind_eq_some_iff.mp h
      replace h := xI_ok h
      obtain ⟨v14, P11, rfl, h⟩ := h
      refine x_callV (c_X9_isDead hl e13) dX1_forgetDead_28 cw_X9_isDead wl_X1_128 wi_X9_isDead wse_X9_isDead rfl e15 (by decide) rfl (by omega) (by decide) rfl (Nat.le_of_ble_eq_true rfl) rfl (fun v9 P9 hq9 => ?_) (fun i9 P9 hq9 => by cases hq9)
      cases hq9
      refine x_if_eq 56 dX1_forgetDead_31 (by decide) (fun q16 => ?_) (fun q16 => ?_)
      · rw [if_pos q16] at h
        refine x_iinc (a1 + 1) dX1_forgetDead_56 rfl (by rfl) ?_
        refine x_goto 2 dX1_forgetDead_59 (by decide) ?_
        exact Wp.mask [true, true, false] (hrec 2 _ _ _ h _ _ rfl _ hQ)
      · rw [if_neg q16] at h
        refine x_iconst 0 dX1_forgetDead_34 (by decide) ?_
        refine x_istore_n dX1_forgetDead_35 (Nat.le_of_ble_eq_true rfl) ?_
        exact Wp.mask [true, true, true] (hrec 36 _ _ _ h _ _ rfl _ hQ)
set_option maxHeartbeats 2000000 in
set_option maxRecDepth 20000 in
theorem t_X1_forgetDead_36 {G : xG} {l : Launch} (hl : l.stackTraces = false) {n : Nat} {rec : Nat → List Value → xH → xO} (hrec : ∀ pc env P z, rec pc env P = some z → ∀ L st, lay_X1_forgetDead pc env = some (L, st) → ∀ Q : xR → xH → Prop, Q z.1 z.2 → Wp G l 5 mX1_forgetDead pc L st P Q) {a0 a1 a2} {P : xH} {z : xR × xH} (h : b_X1_forgetDead_36 n rec a0 a1 a2 P = some z) {Q : xR → xH → Prop} (hQ : Q z.1 z.2) : Wp G l 5 mX1_forgetDead 36 [some (.ref a0), some (.int a1), some (.int a2)] [] P Q := by
  unfold b_X1_forgetDead_36 at h
  refine x_iload_n dX1_forgetDead_36 rfl ?_
  refine x_aload_nr dX1_forgetDead_37 rfl ?_
  obtain ⟨v1, e2, h⟩ := Option.bind_eq_some_iff.mp h
  refine k_rI e2 dX1_forgetDead_38 f_X1_60 ?_
  refine x_icmp_ge 56 dX1_forgetDead_41 (by decide) (fun q7 => ?_) (fun q7 => ?_)
  · rw [if_pos q7] at h
    refine x_iinc (a1 + 1) dX1_forgetDead_56 rfl (by rfl) ?_
    refine x_goto 2 dX1_forgetDead_59 (by decide) ?_
    exact Wp.mask [true, true, false] (hrec 2 _ _ _ h _ _ rfl _ hQ)
  · rw [if_neg q7] at h
    refine x_aload_nr dX1_forgetDead_44 rfl ?_
    refine x_iload_n dX1_forgetDead_45 rfl ?_
    refine x_iload_n dX1_forgetDead_46 rfl ?_
    obtain ⟨_, e6, h⟩ := Option.bind_eq_some_iff.mp h
    obtain ⟨fse6, e6⟩ := kO_ok e6
    obtain ⟨r4, e5, h⟩ := Option.bind_eq_some_iff.mp h
    replace h := xU_ok h
    obtain ⟨P3, rfl, h⟩ := h
    refine x_callV (c_X1_lose hl e5) dX1_forgetDead_47 cw_X1_lose wl_X1_97 wi_X1_lose wse_X1_lose rfl e6 (by decide) rfl (by omega) (by decide) rfl (Nat.le_of_ble_eq_true rfl) rfl (fun v9 P9 hq9 => ?_) (fun i9 P9 hq9 => by cases hq9)
    cases hq9
    refine x_iinc (a2 + 1) dX1_forgetDead_50 rfl (by rfl) ?_
    refine x_goto 36 dX1_forgetDead_53 (by decide) ?_
    exact Wp.mask [true, true, true] (hrec 36 _ _ _ h _ _ rfl _ hQ)
theorem s_X1_forgetDead {G : xG} {l : Launch} (hl : l.stackTraces = false) : ∀ n pc env P z, f_X1_forgetDead n pc env P = some z → ∀ L st, lay_X1_forgetDead pc env = some (L, st) → ∀ Q : xR → xH → Prop, Q z.1 z.2 → Wp G l 5 mX1_forgetDead pc L st P Q := by
  intro n
  induction n with
  | zero => intro pc env P z h; cases h
  | succ n ih =>
    intro pc env P z h L st hlay Q hQ
    unfold f_X1_forgetDead at h
    split at h
    · cases hlay
      exact t_X1_forgetDead_0 hl ih h hQ
    · cases hlay
      exact t_X1_forgetDead_2 hl ih h hQ
    · cases hlay
      exact t_X1_forgetDead_36 hl ih h hQ
    · cases h
theorem c_X1_forgetDead {G : xG} {l : Launch} (hl : l.stackTraces = false) {n : Nat} {as : List Value} {P : xH} {z : xR × xH} (h : f_X1_forgetDead n 0 as P = some z) : Ct G l 5 mX1_forgetDead as P (fun r P1 => (r, P1) = z) := by
  cases n with
  | zero => cases h
  | succ n =>
    unfold f_X1_forgetDead at h
    split at h
    · exact Ct.of hl (by decide +kernel) wc_X1_forgetDead (Nat.le_of_ble_eq_true rfl) (t_X1_forgetDead_0 hl (s_X1_forgetDead hl _) h rfl)
    all_goals first | (cases h; done) | (rename_i q9 _; exact absurd q9 (by decide)) | (rename_i q9; exact absurd q9 (by decide)) | contradiction
/-! QuakeNet$Rules.cost()I -/
def b_X5_cost_0 (n : Nat) (rec : Nat → List Value → xH → xO) (a0 : Nat) (P : xH) : xO :=
  (rI P a0 5 3).bind fun v1 =>
  rec 7 [.ref a0, .int ((v1 - 1))] P
def b_X5_cost_7 (n : Nat) (rec : Nat → List Value → xH → xO) (a0 : Nat) (a1 : Int32) (P : xH) : xO :=
  if a1 < 0 then
    some (.inl (some (.int 1)), P)
  else
    (rA P a0 5 0).bind fun v1 =>
    (aI P v1 a1).bind fun v3 =>
    if ¬ v3 = 2 then
      rec 7 [.ref a0, .int ((a1 + (-1)))] P
    else
      (rA P a0 5 1).bind fun v5 =>
      (aI P v5 a1).bind fun v7 =>
      some (.inl (some (.int v7)), P)
def lay_X5_cost : Nat → List Value → Option (xL × List Value)
  | 0, [a0] => some ([some a0, none], [])
  | 7, [a0, a1] => some ([some a0, some a1], [])
  | _, _ => none
def f_X5_cost : Nat → Nat → List Value → xH → xO
  | 0 => fun _ _ _ => none
  | n + 1 => fun pc env P => match pc, env with
    | 0, [.ref a0] => b_X5_cost_0 n (f_X5_cost n) a0 P
    | 7, [.ref a0, .int a1] => b_X5_cost_7 n (f_X5_cost n) a0 a1 P
    | _, _ => none
set_option maxHeartbeats 2000000 in
set_option maxRecDepth 20000 in
theorem t_X5_cost_0 {G : xG} {l : Launch} (hl : l.stackTraces = false) {n : Nat} {rec : Nat → List Value → xH → xO} (hrec : ∀ pc env P z, rec pc env P = some z → ∀ L st, lay_X5_cost pc env = some (L, st) → ∀ Q : xR → xH → Prop, Q z.1 z.2 → Wp G l 3 mX5_cost pc L st P Q) {a0} {P : xH} {z : xR × xH} (h : b_X5_cost_0 n rec a0 P = some z) {Q : xR → xH → Prop} (hQ : Q z.1 z.2) : Wp G l 3 mX5_cost 0 [some (.ref a0), none] [] P Q := by
  unfold b_X5_cost_0 at h
  refine x_aload_nr dX5_cost_0 rfl ?_
  obtain ⟨v1, e2, h⟩ := Option.bind_eq_some_iff.mp h
  refine k_rI e2 dX5_cost_1 f_X5_25 ?_
  refine x_iconst 1 dX5_cost_4 (by decide) ?_
  refine x_isub dX5_cost_5 ?_
  refine x_istore_n dX5_cost_6 (Nat.le_of_ble_eq_true rfl) ?_
  exact Wp.mask [true, true] (hrec 7 _ _ _ h _ _ rfl _ hQ)
set_option maxHeartbeats 2000000 in
set_option maxRecDepth 20000 in
theorem t_X5_cost_7 {G : xG} {l : Launch} (hl : l.stackTraces = false) {n : Nat} {rec : Nat → List Value → xH → xO} (hrec : ∀ pc env P z, rec pc env P = some z → ∀ L st, lay_X5_cost pc env = some (L, st) → ∀ Q : xR → xH → Prop, Q z.1 z.2 → Wp G l 3 mX5_cost pc L st P Q) {a0 a1} {P : xH} {z : xR × xH} (h : b_X5_cost_7 n rec a0 a1 P = some z) {Q : xR → xH → Prop} (hQ : Q z.1 z.2) : Wp G l 3 mX5_cost 7 [some (.ref a0), some (.int a1)] [] P Q := by
  unfold b_X5_cost_7 at h
  refine x_iload_n dX5_cost_7 rfl ?_
  refine x_if_lt 34 dX5_cost_8 (by decide) (fun q10 => ?_) (fun q10 => ?_)
  · rw [if_pos q10] at h
    refine x_iconst 1 dX5_cost_34 (by decide) ?_
    cases h
    exact x_iret .int rfl rfl dX5_cost_35 hQ
  · rw [if_neg q10] at h
    refine x_aload_nr dX5_cost_11 rfl ?_
    obtain ⟨v1, e2, h⟩ := Option.bind_eq_some_iff.mp h
    refine k_rA e2 dX5_cost_12 f_X5_9 ?_
    refine x_iload_n dX5_cost_15 rfl ?_
    obtain ⟨v3, e4, h⟩ := Option.bind_eq_some_iff.mp h
    refine k_aI e4 dX5_cost_16 ?_
    refine x_iconst 2 dX5_cost_17 (by decide) ?_
    refine x_icmp_ne 28 dX5_cost_18 (by decide) (fun q9 => ?_) (fun q9 => ?_)
    · rw [if_pos q9] at h
      refine x_iinc (a1 + (-1)) dX5_cost_28 rfl (by rfl) ?_
      refine x_goto 7 dX5_cost_31 (by decide) ?_
      exact Wp.mask [true, true] (hrec 7 _ _ _ h _ _ rfl _ hQ)
    · rw [if_neg (fun z9 => z9 q9)] at h
      refine x_aload_nr dX5_cost_21 rfl ?_
      obtain ⟨v5, e6, h⟩ := Option.bind_eq_some_iff.mp h
      refine k_rA e6 dX5_cost_22 f_X5_13 ?_
      refine x_iload_n dX5_cost_25 rfl ?_
      obtain ⟨v7, e8, h⟩ := Option.bind_eq_some_iff.mp h
      refine k_aI e8 dX5_cost_26 ?_
      cases h
      exact x_iret .int rfl rfl dX5_cost_27 hQ
theorem s_X5_cost {G : xG} {l : Launch} (hl : l.stackTraces = false) : ∀ n pc env P z, f_X5_cost n pc env P = some z → ∀ L st, lay_X5_cost pc env = some (L, st) → ∀ Q : xR → xH → Prop, Q z.1 z.2 → Wp G l 3 mX5_cost pc L st P Q := by
  intro n
  induction n with
  | zero => intro pc env P z h; cases h
  | succ n ih =>
    intro pc env P z h L st hlay Q hQ
    unfold f_X5_cost at h
    split at h
    · cases hlay
      exact t_X5_cost_0 hl ih h hQ
    · cases hlay
      exact t_X5_cost_7 hl ih h hQ
    · cases h
theorem c_X5_cost {G : xG} {l : Launch} (hl : l.stackTraces = false) {n : Nat} {as : List Value} {P : xH} {z : xR × xH} (h : f_X5_cost n 0 as P = some z) : Ct G l 3 mX5_cost as P (fun r P1 => (r, P1) = z) := by
  cases n with
  | zero => cases h
  | succ n =>
    unfold f_X5_cost at h
    split at h
    · exact Ct.of hl (by decide +kernel) wc_X5_cost (Nat.le_of_ble_eq_true rfl) (t_X5_cost_0 hl (s_X5_cost hl _) h rfl)
    all_goals first | (cases h; done) | (rename_i q9 _; exact absurd q9 (by decide)) | (rename_i q9; exact absurd q9 (by decide)) | contradiction
/-! QuakeNet$Net.hand(III)V -/
def b_X1_hand_0 (n : Nat) (rec : Nat → List Value → xH → xO) (a0 : Nat) (a1 : Int32) (a2 : Int32) (a3 : Int32) (P : xH) : xO :=
  (kO P a0 1).bind fun _ =>
  (f_X1_isFull n 0 [.ref a0, .int a2] P).bind fun r2 => xI r2 fun v4 P1 =>
  if v4 = 0 then
    rec 18 [.ref a0, .int a1, .int a2, .int a3] P1
  else
    (kO P1 a0 1).bind fun _ =>
    (f_X1_leastOn n 0 [.ref a0, .int a2] P1).bind fun r7 => xI r7 fun v9 P6 =>
    (kO P6 a0 1).bind fun _ =>
    (f_X1_giveAway n 0 [.ref a0, .int a2, .int v9] P6).bind fun r12 => xU r12 fun P11 =>
    rec 18 [.ref a0, .int a1, .int a2, .int a3] P11
def b_X1_hand_18 (n : Nat) (rec : Nat → List Value → xH → xO) (a0 : Nat) (a1 : Int32) (a2 : Int32) (a3 : Int32) (P : xH) : xO :=
  (rA P a0 1 0).bind fun v1 =>
  (rA P v1 9 0).bind fun v3 =>
  (aA P v3 8).bind fun v5 =>
  (aI P v5 a3).bind fun v7 =>
  (kO P a0 1).bind fun _ =>
  (f_X1_lose n 0 [.ref a0, .int a2, .int v7] P).bind fun r10 => xU r10 fun P9 =>
  (rA P9 a0 1 0).bind fun v13 =>
  (rA P9 v13 9 0).bind fun v15 =>
  (aA P9 v15 0).bind fun v17 =>
  (aI P9 v17 a3).bind fun v19 =>
  if v19 = 1 then
    rec 60 [.ref a0, .int a1, .int a2, .int a3, .int v19] P9
  else
    if ¬ v19 = 2 then
      rec 72 [.ref a0, .int a1, .int a2, .int a3, .int v19, .int 0] P9
    else
      rec 60 [.ref a0, .int a1, .int a2, .int a3, .int v19] P9
def b_X1_hand_60 (n : Nat) (rec : Nat → List Value → xH → xO) (a0 : Nat) (a1 : Int32) (a2 : Int32) (a3 : Int32) (a4 : Int32) (P : xH) : xO :=
  (rA P a0 1 5).bind fun v1 =>
  (aA P v1 4).bind fun v3 =>
  (aI P v3 a1).bind fun v5 =>
  rec 72 [.ref a0, .int a1, .int a2, .int a3, .int a4, .int v5] P
def b_X1_hand_72 (n : Nat) (rec : Nat → List Value → xH → xO) (a0 : Nat) (a1 : Int32) (a2 : Int32) (a3 : Int32) (a4 : Int32) (s0 : Int32) (P : xH) : xO :=
  (rA P a0 1 6).bind fun v1 =>
  (aA P v1 0).bind fun v3 =>
  (f_X1_cell n 0 [.int a1, .int a3] P).bind fun r6 => xI r6 fun v8 P5 =>
  (aI P5 v3 v8).bind fun v9 =>
  (kO P5 a0 1).bind fun _ =>
  (f_X1_put n 0 [.ref a0, .int a2, .int a3, .int ((mMin ((v9 + s0)) 9999)), .int a1] P5).bind fun r12 => xU r12 fun P11 =>
  (rA P11 a0 1 5).bind fun v15 =>
  (aA P11 v15 1).bind fun v17 =>
  (rA P11 a0 1 5).bind fun v19 =>
  (aA P11 v19 1).bind fun v21 =>
  (aI P11 v21 a1).bind fun v23 =>
  (rA P11 a0 1 1).bind fun v25 =>
  (kO P11 v25 5).bind fun _ =>
  (f_X5_cost n 0 [.ref v25] P11).bind fun r28 => xI r28 fun v30 P27 =>
  (sI P27 v17 a1 ((mMax ((v23 - v30)) 0))).bind fun P32 =>
  (rA P32 a0 1 5).bind fun v34 =>
  (aA P32 v34 1).bind fun v36 =>
  (aI P32 v36 a2).bind fun v38 =>
  (sI P32 v36 a2 ((v38 - 1))).bind fun P40 =>
  (rA P40 a0 1 5).bind fun v42 =>
  (aA P40 v42 5).bind fun v44 =>
  (aI P40 v44 a1).bind fun v46 =>
  (sI P40 v44 a1 ((v46 + 1))).bind fun P48 =>
  (rA P48 a0 1 5).bind fun v50 =>
  (aA P48 v50 6).bind fun v52 =>
  (aI P48 v52 a2).bind fun v54 =>
  (sI P48 v52 a2 ((v54 + 1))).bind fun P56 =>
  some (.inl none, P56)
def lay_X1_hand : Nat → List Value → Option (xL × List Value)
  | 0, [a0, a1, a2, a3] => some ([some a0, some a1, some a2, some a3, none, none, none], [])
  | 18, [a0, a1, a2, a3] => some ([some a0, some a1, some a2, some a3, none, none, none], [])
  | 60, [a0, a1, a2, a3, a4] => some ([some a0, some a1, some a2, some a3, some a4, none, none], [])
  | 72, [a0, a1, a2, a3, a4, s0] => some ([some a0, some a1, some a2, some a3, some a4, none, none], [s0])
  | _, _ => none
def f_X1_hand : Nat → Nat → List Value → xH → xO
  | 0 => fun _ _ _ => none
  | n + 1 => fun pc env P => match pc, env with
    | 0, [.ref a0, .int a1, .int a2, .int a3] => b_X1_hand_0 n (f_X1_hand n) a0 a1 a2 a3 P
    | 18, [.ref a0, .int a1, .int a2, .int a3] => b_X1_hand_18 n (f_X1_hand n) a0 a1 a2 a3 P
    | 60, [.ref a0, .int a1, .int a2, .int a3, .int a4] => b_X1_hand_60 n (f_X1_hand n) a0 a1 a2 a3 a4 P
    | 72, [.ref a0, .int a1, .int a2, .int a3, .int a4, .int s0] => b_X1_hand_72 n (f_X1_hand n) a0 a1 a2 a3 a4 s0 P
    | _, _ => none
set_option maxHeartbeats 2000000 in
set_option maxRecDepth 20000 in
theorem t_X1_hand_0 {G : xG} {l : Launch} (hl : l.stackTraces = false) {n : Nat} {rec : Nat → List Value → xH → xO} (hrec : ∀ pc env P z, rec pc env P = some z → ∀ L st, lay_X1_hand pc env = some (L, st) → ∀ Q : xR → xH → Prop, Q z.1 z.2 → Wp G l 7 mX1_hand pc L st P Q) {a0 a1 a2 a3} {P : xH} {z : xR × xH} (h : b_X1_hand_0 n rec a0 a1 a2 a3 P = some z) {Q : xR → xH → Prop} (hQ : Q z.1 z.2) : Wp G l 7 mX1_hand 0 [some (.ref a0), some (.int a1), some (.int a2), some (.int a3), none, none, none] [] P Q := by
  unfold b_X1_hand_0 at h
  refine x_aload_nr dX1_hand_0 rfl ?_
  refine x_iload_n dX1_hand_1 rfl ?_
  obtain ⟨_, e5, h⟩ := Option.bind_eq_some_iff.mp h
  obtain ⟨fse5, e5⟩ := kO_ok e5
  obtain ⟨r2, e3, h⟩ := Option.bind_eq_some_iff.mp h
  replace h := xI_ok h
  obtain ⟨v4, P1, rfl, h⟩ := h
  refine x_callV (c_X1_isFull hl e3) dX1_hand_2 cw_X1_isFull wl_X1_101 wi_X1_isFull wse_X1_isFull rfl e5 (by decide) rfl (by omega) (by decide) rfl (Nat.le_of_ble_eq_true rfl) rfl (fun v9 P9 hq9 => ?_) (fun i9 P9 hq9 => by cases hq9)
  cases hq9
  refine x_if_eq 18 dX1_hand_5 (by decide) (fun q15 => ?_) (fun q15 => ?_)
  · rw [if_pos q15] at h
    exact Wp.mask [true, true, true, true, false, false, false] (hrec 18 _ _ _ h _ _ rfl _ hQ)
  · rw [if_neg q15] at h
    refine x_aload_nr dX1_hand_8 rfl ?_
    refine x_iload_n dX1_hand_9 rfl ?_
    refine x_aload_nr dX1_hand_10 rfl ?_
    refine x_iload_n dX1_hand_11 rfl ?_
    obtain ⟨_, e10, h⟩ := Option.bind_eq_some_iff.mp h
    obtain ⟨fse10, e10⟩ := kO_ok e10
    obtain ⟨r7, e8, h⟩ := Option.bind_eq_some_iff.mp h
    replace h := xI_ok h
    obtain ⟨v9, P6, rfl, h⟩ := h
    refine x_callV (c_X1_leastOn hl e8) dX1_hand_12 cw_X1_leastOn wl_X1_105 wi_X1_leastOn wse_X1_leastOn rfl e10 (by decide) rfl (by omega) (by decide) rfl (Nat.le_of_ble_eq_true rfl) rfl (fun v9 P9 hq9 => ?_) (fun i9 P9 hq9 => by cases hq9)
    cases hq9
    obtain ⟨_, e14, h⟩ := Option.bind_eq_some_iff.mp h
    obtain ⟨fse14, e14⟩ := kO_ok e14
    obtain ⟨r12, e13, h⟩ := Option.bind_eq_some_iff.mp h
    replace h := xU_ok h
    obtain ⟨P11, rfl, h⟩ := h
    refine x_callV (c_X1_giveAway hl e13) dX1_hand_15 cw_X1_giveAway wl_X1_109 wi_X1_giveAway wse_X1_giveAway rfl e14 (by decide) rfl (by omega) (by decide) rfl (Nat.le_of_ble_eq_true rfl) rfl (fun v9 P9 hq9 => ?_) (fun i9 P9 hq9 => by cases hq9)
    cases hq9
    exact Wp.mask [true, true, true, true, false, false, false] (hrec 18 _ _ _ h _ _ rfl _ hQ)
set_option maxHeartbeats 2000000 in
set_option maxRecDepth 20000 in
theorem t_X1_hand_18 {G : xG} {l : Launch} (hl : l.stackTraces = false) {n : Nat} {rec : Nat → List Value → xH → xO} (hrec : ∀ pc env P z, rec pc env P = some z → ∀ L st, lay_X1_hand pc env = some (L, st) → ∀ Q : xR → xH → Prop, Q z.1 z.2 → Wp G l 7 mX1_hand pc L st P Q) {a0 a1 a2 a3} {P : xH} {z : xR × xH} (h : b_X1_hand_18 n rec a0 a1 a2 a3 P = some z) {Q : xR → xH → Prop} (hQ : Q z.1 z.2) : Wp G l 7 mX1_hand 18 [some (.ref a0), some (.int a1), some (.int a2), some (.int a3), none, none, none] [] P Q := by
  unfold b_X1_hand_18 at h
  refine x_aload_nr dX1_hand_18 rfl ?_
  refine x_iload_n dX1_hand_19 rfl ?_
  refine x_aload_nr dX1_hand_20 rfl ?_
  obtain ⟨v1, e2, h⟩ := Option.bind_eq_some_iff.mp h
  refine k_rA e2 dX1_hand_21 f_X1_42 ?_
  obtain ⟨v3, e4, h⟩ := Option.bind_eq_some_iff.mp h
  refine k_rA e4 dX1_hand_24 f_X1_82 ?_
  refine x_bipush 8 dX1_hand_27 (by decide) ?_
  obtain ⟨v5, e6, h⟩ := Option.bind_eq_some_iff.mp h
  refine k_aA e6 dX1_hand_29 ?_
  refine x_iload_n dX1_hand_30 rfl ?_
  obtain ⟨v7, e8, h⟩ := Option.bind_eq_some_iff.mp h
  refine k_aI e8 dX1_hand_31 ?_
  obtain ⟨_, e12, h⟩ := Option.bind_eq_some_iff.mp h
  obtain ⟨fse12, e12⟩ := kO_ok e12
  obtain ⟨r10, e11, h⟩ := Option.bind_eq_some_iff.mp h
  replace h := xU_ok h
  obtain ⟨P9, rfl, h⟩ := h
  refine x_callV (c_X1_lose hl e11) dX1_hand_32 cw_X1_lose wl_X1_97 wi_X1_lose wse_X1_lose rfl e12 (by decide) rfl (by omega) (by decide) rfl (Nat.le_of_ble_eq_true rfl) rfl (fun v9 P9 hq9 => ?_) (fun i9 P9 hq9 => by cases hq9)
  cases hq9
  refine x_aload_nr dX1_hand_35 rfl ?_
  obtain ⟨v13, e14, h⟩ := Option.bind_eq_some_iff.mp h
  refine k_rA e14 dX1_hand_36 f_X1_42 ?_
  obtain ⟨v15, e16, h⟩ := Option.bind_eq_some_iff.mp h
  refine k_rA e16 dX1_hand_39 f_X1_82 ?_
  refine x_iconst 0 dX1_hand_42 (by decide) ?_
  obtain ⟨v17, e18, h⟩ := Option.bind_eq_some_iff.mp h
  refine k_aA e18 dX1_hand_43 ?_
  refine x_iload_n dX1_hand_44 rfl ?_
  obtain ⟨v19, e20, h⟩ := Option.bind_eq_some_iff.mp h
  refine k_aI e20 dX1_hand_45 ?_
  refine x_istore dX1_hand_46 (Nat.le_of_ble_eq_true rfl) ?_
  refine x_iload dX1_hand_48 rfl ?_
  refine x_iconst 1 dX1_hand_50 (by decide) ?_
  refine x_icmp_eq 60 dX1_hand_51 (by decide) (fun q22 => ?_) (fun q22 => ?_)
  · rw [if_pos q22] at h
    exact Wp.mask [true, true, true, true, true, false, false] (hrec 60 _ _ _ h _ _ rfl _ hQ)
  · rw [if_neg q22] at h
    refine x_iload dX1_hand_54 rfl ?_
    refine x_iconst 2 dX1_hand_56 (by decide) ?_
    refine x_icmp_ne 71 dX1_hand_57 (by decide) (fun q21 => ?_) (fun q21 => ?_)
    · rw [if_pos q21] at h
      refine x_iconst 0 dX1_hand_71 (by decide) ?_
      exact Wp.mask [true, true, true, true, true, false, false] (hrec 72 _ _ _ h _ _ rfl _ hQ)
    · rw [if_neg (fun z9 => z9 q21)] at h
      exact Wp.mask [true, true, true, true, true, false, false] (hrec 60 _ _ _ h _ _ rfl _ hQ)
set_option maxHeartbeats 2000000 in
set_option maxRecDepth 20000 in
theorem t_X1_hand_60 {G : xG} {l : Launch} (hl : l.stackTraces = false) {n : Nat} {rec : Nat → List Value → xH → xO} (hrec : ∀ pc env P z, rec pc env P = some z → ∀ L st, lay_X1_hand pc env = some (L, st) → ∀ Q : xR → xH → Prop, Q z.1 z.2 → Wp G l 7 mX1_hand pc L st P Q) {a0 a1 a2 a3 a4} {P : xH} {z : xR × xH} (h : b_X1_hand_60 n rec a0 a1 a2 a3 a4 P = some z) {Q : xR → xH → Prop} (hQ : Q z.1 z.2) : Wp G l 7 mX1_hand 60 [some (.ref a0), some (.int a1), some (.int a2), some (.int a3), some (.int a4), none, none] [] P Q := by
  unfold b_X1_hand_60 at h
  refine x_aload_nr dX1_hand_60 rfl ?_
  obtain ⟨v1, e2, h⟩ := Option.bind_eq_some_iff.mp h
  refine k_rA e2 dX1_hand_61 f_X1_13 ?_
  refine x_iconst 4 dX1_hand_64 (by decide) ?_
  obtain ⟨v3, e4, h⟩ := Option.bind_eq_some_iff.mp h
  refine k_aA e4 dX1_hand_65 ?_
  refine x_iload_n dX1_hand_66 rfl ?_
  obtain ⟨v5, e6, h⟩ := Option.bind_eq_some_iff.mp h
  refine k_aI e6 dX1_hand_67 ?_
  refine x_goto 72 dX1_hand_68 (by decide) ?_
  exact Wp.mask [true, true, true, true, true, false, false] (hrec 72 _ _ _ h _ _ rfl _ hQ)
set_option maxHeartbeats 2000000 in
set_option maxRecDepth 20000 in
theorem t_X1_hand_72 {G : xG} {l : Launch} (hl : l.stackTraces = false) {n : Nat} {rec : Nat → List Value → xH → xO} (hrec : ∀ pc env P z, rec pc env P = some z → ∀ L st, lay_X1_hand pc env = some (L, st) → ∀ Q : xR → xH → Prop, Q z.1 z.2 → Wp G l 7 mX1_hand pc L st P Q) {a0 a1 a2 a3 a4 s0} {P : xH} {z : xR × xH} (h : b_X1_hand_72 n rec a0 a1 a2 a3 a4 s0 P = some z) {Q : xR → xH → Prop} (hQ : Q z.1 z.2) : Wp G l 7 mX1_hand 72 [some (.ref a0), some (.int a1), some (.int a2), some (.int a3), some (.int a4), none, none] [.int s0] P Q := by
  unfold b_X1_hand_72 at h
  refine x_istore dX1_hand_72 (Nat.le_of_ble_eq_true rfl) ?_
  refine x_aload_nr dX1_hand_74 rfl ?_
  obtain ⟨v1, e2, h⟩ := Option.bind_eq_some_iff.mp h
  refine k_rA e2 dX1_hand_75 f_X1_16 ?_
  refine x_iconst 0 dX1_hand_78 (by decide) ?_
  obtain ⟨v3, e4, h⟩ := Option.bind_eq_some_iff.mp h
  refine k_aA e4 dX1_hand_79 ?_
  refine x_iload_n dX1_hand_80 rfl ?_
  refine x_iload_n dX1_hand_81 rfl ?_
  obtain ⟨r6, e7, h⟩ := Option.bind_eq_some_iff.mp h
  replace h := xI_ok h
  obtain ⟨v8, P5, rfl, h⟩ := h
  refine x_callS (c_X1_cell hl e7) dX1_hand_82 cw_X1_cell wl_X1_164 ws_X1_cell rfl (by omega) (by decide) rfl (Nat.le_of_ble_eq_true rfl) rfl (fun v9 P9 hq9 => ?_) (fun i9 P9 hq9 => by cases hq9)
  cases hq9
  obtain ⟨v9, e10, h⟩ := Option.bind_eq_some_iff.mp h
  refine k_aI e10 dX1_hand_85 ?_
  refine x_iload dX1_hand_86 rfl ?_
  refine x_iadd dX1_hand_88 ?_
  refine x_istore dX1_hand_89 (Nat.le_of_ble_eq_true rfl) ?_
  refine x_aload_nr dX1_hand_91 rfl ?_
  refine x_iload_n dX1_hand_92 rfl ?_
  refine x_iload_n dX1_hand_93 rfl ?_
  refine x_iload dX1_hand_94 rfl ?_
  refine x_sipush 9999 dX1_hand_96 (by decide) ?_
  refine x_mmin dX1_hand_99 wl_X1_167 (Nat.le_of_ble_eq_true rfl) (by omega) ?_
  refine x_iload_n dX1_hand_102 rfl ?_
  obtain ⟨_, e14, h⟩ := Option.bind_eq_some_iff.mp h
  obtain ⟨fse14, e14⟩ := kO_ok e14
  obtain ⟨r12, e13, h⟩ := Option.bind_eq_some_iff.mp h
  replace h := xU_ok h
  obtain ⟨P11, rfl, h⟩ := h
  refine x_callV (c_X1_put hl e13) dX1_hand_103 cw_X1_put wl_X1_112 wi_X1_put wse_X1_put rfl e14 (by decide) rfl (by omega) (by decide) rfl (Nat.le_of_ble_eq_true rfl) rfl (fun v9 P9 hq9 => ?_) (fun i9 P9 hq9 => by cases hq9)
  cases hq9
  refine x_aload_nr dX1_hand_106 rfl ?_
  obtain ⟨v15, e16, h⟩ := Option.bind_eq_some_iff.mp h
  refine k_rA e16 dX1_hand_107 f_X1_13 ?_
  refine x_iconst 1 dX1_hand_110 (by decide) ?_
  obtain ⟨v17, e18, h⟩ := Option.bind_eq_some_iff.mp h
  refine k_aA e18 dX1_hand_111 ?_
  refine x_iload_n dX1_hand_112 rfl ?_
  refine x_aload_nr dX1_hand_113 rfl ?_
  obtain ⟨v19, e20, h⟩ := Option.bind_eq_some_iff.mp h
  refine k_rA e20 dX1_hand_114 f_X1_13 ?_
  refine x_iconst 1 dX1_hand_117 (by decide) ?_
  obtain ⟨v21, e22, h⟩ := Option.bind_eq_some_iff.mp h
  refine k_aA e22 dX1_hand_118 ?_
  refine x_iload_n dX1_hand_119 rfl ?_
  obtain ⟨v23, e24, h⟩ := Option.bind_eq_some_iff.mp h
  refine k_aI e24 dX1_hand_120 ?_
  refine x_aload_nr dX1_hand_121 rfl ?_
  obtain ⟨v25, e26, h⟩ := Option.bind_eq_some_iff.mp h
  refine k_rA e26 dX1_hand_122 f_X1_46 ?_
  obtain ⟨_, e31, h⟩ := Option.bind_eq_some_iff.mp h
  obtain ⟨fse31, e31⟩ := kO_ok e31
  obtain ⟨r28, e29, h⟩ := Option.bind_eq_some_iff.mp h
  replace h := xI_ok h
  obtain ⟨v30, P27, rfl, h⟩ := h
  refine x_callV (c_X5_cost hl e29) dX1_hand_125 cw_X5_cost wl_X1_172 wi_X5_cost wse_X5_cost rfl e31 (by decide) rfl (by omega) (by decide) rfl (Nat.le_of_ble_eq_true rfl) rfl (fun v9 P9 hq9 => ?_) (fun i9 P9 hq9 => by cases hq9)
  cases hq9
  refine x_isub dX1_hand_128 ?_
  refine x_iconst 0 dX1_hand_129 (by decide) ?_
  refine x_mmax dX1_hand_130 wl_X1_175 (Nat.le_of_ble_eq_true rfl) (by omega) ?_
  obtain ⟨P32, e33, h⟩ := Option.bind_eq_some_iff.mp h
  refine k_sI e33 dX1_hand_133 ?_
  refine x_aload_nr dX1_hand_134 rfl ?_
  obtain ⟨v34, e35, h⟩ := Option.bind_eq_some_iff.mp h
  refine k_rA e35 dX1_hand_135 f_X1_13 ?_
  refine x_iconst 1 dX1_hand_138 (by decide) ?_
  obtain ⟨v36, e37, h⟩ := Option.bind_eq_some_iff.mp h
  refine k_aA e37 dX1_hand_139 ?_
  refine x_iload_n dX1_hand_140 rfl ?_
  refine x_dup2 dX1_hand_141 rfl rfl ?_
  obtain ⟨v38, e39, h⟩ := Option.bind_eq_some_iff.mp h
  refine k_aI e39 dX1_hand_142 ?_
  refine x_iconst 1 dX1_hand_143 (by decide) ?_
  refine x_isub dX1_hand_144 ?_
  obtain ⟨P40, e41, h⟩ := Option.bind_eq_some_iff.mp h
  refine k_sI e41 dX1_hand_145 ?_
  refine x_aload_nr dX1_hand_146 rfl ?_
  obtain ⟨v42, e43, h⟩ := Option.bind_eq_some_iff.mp h
  refine k_rA e43 dX1_hand_147 f_X1_13 ?_
  refine x_iconst 5 dX1_hand_150 (by decide) ?_
  obtain ⟨v44, e45, h⟩ := Option.bind_eq_some_iff.mp h
  refine k_aA e45 dX1_hand_151 ?_
  refine x_iload_n dX1_hand_152 rfl ?_
  refine x_dup2 dX1_hand_153 rfl rfl ?_
  obtain ⟨v46, e47, h⟩ := Option.bind_eq_some_iff.mp h
  refine k_aI e47 dX1_hand_154 ?_
  refine x_iconst 1 dX1_hand_155 (by decide) ?_
  refine x_iadd dX1_hand_156 ?_
  obtain ⟨P48, e49, h⟩ := Option.bind_eq_some_iff.mp h
  refine k_sI e49 dX1_hand_157 ?_
  refine x_aload_nr dX1_hand_158 rfl ?_
  obtain ⟨v50, e51, h⟩ := Option.bind_eq_some_iff.mp h
  refine k_rA e51 dX1_hand_159 f_X1_13 ?_
  refine x_bipush 6 dX1_hand_162 (by decide) ?_
  obtain ⟨v52, e53, h⟩ := Option.bind_eq_some_iff.mp h
  refine k_aA e53 dX1_hand_164 ?_
  refine x_iload_n dX1_hand_165 rfl ?_
  refine x_dup2 dX1_hand_166 rfl rfl ?_
  obtain ⟨v54, e55, h⟩ := Option.bind_eq_some_iff.mp h
  refine k_aI e55 dX1_hand_167 ?_
  refine x_iconst 1 dX1_hand_168 (by decide) ?_
  refine x_iadd dX1_hand_169 ?_
  obtain ⟨P56, e57, h⟩ := Option.bind_eq_some_iff.mp h
  refine k_sI e57 dX1_hand_170 ?_
  cases h
  exact x_ret rfl dX1_hand_171 hQ
theorem s_X1_hand {G : xG} {l : Launch} (hl : l.stackTraces = false) : ∀ n pc env P z, f_X1_hand n pc env P = some z → ∀ L st, lay_X1_hand pc env = some (L, st) → ∀ Q : xR → xH → Prop, Q z.1 z.2 → Wp G l 7 mX1_hand pc L st P Q := by
  intro n
  induction n with
  | zero => intro pc env P z h; cases h
  | succ n ih =>
    intro pc env P z h L st hlay Q hQ
    unfold f_X1_hand at h
    split at h
    · cases hlay
      exact t_X1_hand_0 hl ih h hQ
    · cases hlay
      exact t_X1_hand_18 hl ih h hQ
    · cases hlay
      exact t_X1_hand_60 hl ih h hQ
    · cases hlay
      exact t_X1_hand_72 hl ih h hQ
    · cases h
theorem c_X1_hand {G : xG} {l : Launch} (hl : l.stackTraces = false) {n : Nat} {as : List Value} {P : xH} {z : xR × xH} (h : f_X1_hand n 0 as P = some z) : Ct G l 7 mX1_hand as P (fun r P1 => (r, P1) = z) := by
  cases n with
  | zero => cases h
  | succ n =>
    unfold f_X1_hand at h
    split at h
    · exact Ct.of hl (by decide +kernel) wc_X1_hand (Nat.le_of_ble_eq_true rfl) (t_X1_hand_0 hl (s_X1_hand hl _) h rfl)
    all_goals first | (cases h; done) | (rename_i q9 _; exact absurd q9 (by decide)) | (rename_i q9; exact absurd q9 (by decide)) | contradiction
/-! QuakeNet$Rules.lets()Z -/
def b_X5_lets_0 (n : Nat) (rec : Nat → List Value → xH → xO) (a0 : Nat) (P : xH) : xO :=
  (rA P a0 5 6).bind fun v1 =>
  (aI P v1 1).bind fun v3 =>
  if v3 < 12 then
    rec 17 [.ref a0, .int 0, .int 0] P
  else
    some (.inl (some (.int 0)), P)
def b_X5_lets_17 (n : Nat) (rec : Nat → List Value → xH → xO) (a0 : Nat) (a1 : Int32) (a2 : Int32) (P : xH) : xO :=
  (rI P a0 5 3).bind fun v1 =>
  if v1 ≤ a2 then
    if ¬ a1 = 0 then
      some (.inl (some (.int 0)), P)
    else
      some (.inl (some (.int 1)), P)
  else
    (rA P a0 5 0).bind fun v4 =>
    (aI P v4 a2).bind fun v6 =>
    if ¬ v6 = 1 then
      rec 45 [.ref a0, .int a1, .int a2] P
    else
      (kO P a0 5).bind fun _ =>
      (f_X5_holds n 0 [.ref a0, .int a2] P).bind fun r9 => xI r9 fun v11 P8 =>
      if v11 = 0 then
        rec 45 [.ref a0, .int a1, .int a2] P8
      else
        some (.inl (some (.int 1)), P8)
def b_X5_lets_45 (n : Nat) (rec : Nat → List Value → xH → xO) (a0 : Nat) (a1 : Int32) (a2 : Int32) (P : xH) : xO :=
  (rA P a0 5 0).bind fun v1 =>
  (aI P v1 a2).bind fun v3 =>
  if ¬ v3 = 1 then
    rec 17 [.ref a0, .int ((a1 ||| 0)), .int ((a2 + 1))] P
  else
    rec 17 [.ref a0, .int ((a1 ||| 1)), .int ((a2 + 1))] P
def lay_X5_lets : Nat → List Value → Option (xL × List Value)
  | 0, [a0] => some ([some a0, none, none], [])
  | 17, [a0, a1, a2] => some ([some a0, some a1, some a2], [])
  | 45, [a0, a1, a2] => some ([some a0, some a1, some a2], [])
  | _, _ => none
def f_X5_lets : Nat → Nat → List Value → xH → xO
  | 0 => fun _ _ _ => none
  | n + 1 => fun pc env P => match pc, env with
    | 0, [.ref a0] => b_X5_lets_0 n (f_X5_lets n) a0 P
    | 17, [.ref a0, .int a1, .int a2] => b_X5_lets_17 n (f_X5_lets n) a0 a1 a2 P
    | 45, [.ref a0, .int a1, .int a2] => b_X5_lets_45 n (f_X5_lets n) a0 a1 a2 P
    | _, _ => none
set_option maxHeartbeats 2000000 in
set_option maxRecDepth 20000 in
theorem t_X5_lets_0 {G : xG} {l : Launch} (hl : l.stackTraces = false) {n : Nat} {rec : Nat → List Value → xH → xO} (hrec : ∀ pc env P z, rec pc env P = some z → ∀ L st, lay_X5_lets pc env = some (L, st) → ∀ Q : xR → xH → Prop, Q z.1 z.2 → Wp G l 4 mX5_lets pc L st P Q) {a0} {P : xH} {z : xR × xH} (h : b_X5_lets_0 n rec a0 P = some z) {Q : xR → xH → Prop} (hQ : Q z.1 z.2) : Wp G l 4 mX5_lets 0 [some (.ref a0), none, none] [] P Q := by
  unfold b_X5_lets_0 at h
  refine x_aload_nr dX5_lets_0 rfl ?_
  obtain ⟨v1, e2, h⟩ := Option.bind_eq_some_iff.mp h
  refine k_rA e2 dX5_lets_1 f_X5_22 ?_
  refine x_iconst 1 dX5_lets_4 (by decide) ?_
  obtain ⟨v3, e4, h⟩ := Option.bind_eq_some_iff.mp h
  refine k_aI e4 dX5_lets_5 ?_
  refine x_bipush 12 dX5_lets_6 (by decide) ?_
  refine x_icmp_lt 13 dX5_lets_8 (by decide) (fun q5 => ?_) (fun q5 => ?_)
  · rw [if_pos q5] at h
    refine x_iconst 0 dX5_lets_13 (by decide) ?_
    refine x_istore_n dX5_lets_14 (Nat.le_of_ble_eq_true rfl) ?_
    refine x_iconst 0 dX5_lets_15 (by decide) ?_
    refine x_istore_n dX5_lets_16 (Nat.le_of_ble_eq_true rfl) ?_
    exact Wp.mask [true, true, true] (hrec 17 _ _ _ h _ _ rfl _ hQ)
  · rw [if_neg q5] at h
    refine x_iconst 0 dX5_lets_11 (by decide) ?_
    cases h
    exact x_iret .boolean rfl rfl dX5_lets_12 hQ
set_option maxHeartbeats 2000000 in
set_option maxRecDepth 20000 in
theorem t_X5_lets_17 {G : xG} {l : Launch} (hl : l.stackTraces = false) {n : Nat} {rec : Nat → List Value → xH → xO} (hrec : ∀ pc env P z, rec pc env P = some z → ∀ L st, lay_X5_lets pc env = some (L, st) → ∀ Q : xR → xH → Prop, Q z.1 z.2 → Wp G l 4 mX5_lets pc L st P Q) {a0 a1 a2} {P : xH} {z : xR × xH} (h : b_X5_lets_17 n rec a0 a1 a2 P = some z) {Q : xR → xH → Prop} (hQ : Q z.1 z.2) : Wp G l 4 mX5_lets 17 [some (.ref a0), some (.int a1), some (.int a2)] [] P Q := by
  unfold b_X5_lets_17 at h
  refine x_iload_n dX5_lets_17 rfl ?_
  refine x_aload_nr dX5_lets_18 rfl ?_
  obtain ⟨v1, e2, h⟩ := Option.bind_eq_some_iff.mp h
  refine k_rI e2 dX5_lets_19 f_X5_25 ?_
  refine x_icmp_ge 69 dX5_lets_22 (by decide) (fun q15 => ?_) (fun q15 => ?_)
  · rw [if_pos q15] at h
    refine x_iload_n dX5_lets_69 rfl ?_
    refine x_if_ne 77 dX5_lets_70 (by decide) (fun q3 => ?_) (fun q3 => ?_)
    · rw [if_pos q3] at h
      refine x_iconst 0 dX5_lets_77 (by decide) ?_
      cases h
      exact x_iret .boolean rfl rfl dX5_lets_78 hQ
    · rw [if_neg (fun z9 => z9 q3)] at h
      refine x_iconst 1 dX5_lets_73 (by decide) ?_
      refine x_goto 78 dX5_lets_74 (by decide) ?_
      cases h
      exact x_iret .boolean rfl rfl dX5_lets_78 hQ
  · rw [if_neg q15] at h
    refine x_aload_nr dX5_lets_25 rfl ?_
    obtain ⟨v4, e5, h⟩ := Option.bind_eq_some_iff.mp h
    refine k_rA e5 dX5_lets_26 f_X5_9 ?_
    refine x_iload_n dX5_lets_29 rfl ?_
    obtain ⟨v6, e7, h⟩ := Option.bind_eq_some_iff.mp h
    refine k_aI e7 dX5_lets_30 ?_
    refine x_iconst 1 dX5_lets_31 (by decide) ?_
    refine x_icmp_ne 45 dX5_lets_32 (by decide) (fun q14 => ?_) (fun q14 => ?_)
    · rw [if_pos q14] at h
      exact Wp.mask [true, true, true] (hrec 45 _ _ _ h _ _ rfl _ hQ)
    · rw [if_neg (fun z9 => z9 q14)] at h
      refine x_aload_nr dX5_lets_35 rfl ?_
      refine x_iload_n dX5_lets_36 rfl ?_
      obtain ⟨_, e12, h⟩ := Option.bind_eq_some_iff.mp h
      obtain ⟨fse12, e12⟩ := kO_ok e12
      obtain ⟨r9, e10, h⟩ := Option.bind_eq_some_iff.mp h
      replace h := xI_ok h
      obtain ⟨v11, P8, rfl, h⟩ := h
      refine x_callV (c_X5_holds hl e10) dX5_lets_37 cw_X5_holds wl_X5_38 wi_X5_holds wse_X5_holds rfl e12 (by decide) rfl (by omega) (by decide) rfl (Nat.le_of_ble_eq_true rfl) rfl (fun v9 P9 hq9 => ?_) (fun i9 P9 hq9 => by cases hq9)
      cases hq9
      refine x_if_eq 45 dX5_lets_40 (by decide) (fun q13 => ?_) (fun q13 => ?_)
      · rw [if_pos q13] at h
        exact Wp.mask [true, true, true] (hrec 45 _ _ _ h _ _ rfl _ hQ)
      · rw [if_neg q13] at h
        refine x_iconst 1 dX5_lets_43 (by decide) ?_
        cases h
        exact x_iret .boolean rfl rfl dX5_lets_44 hQ
set_option maxHeartbeats 2000000 in
set_option maxRecDepth 20000 in
theorem t_X5_lets_45 {G : xG} {l : Launch} (hl : l.stackTraces = false) {n : Nat} {rec : Nat → List Value → xH → xO} (hrec : ∀ pc env P z, rec pc env P = some z → ∀ L st, lay_X5_lets pc env = some (L, st) → ∀ Q : xR → xH → Prop, Q z.1 z.2 → Wp G l 4 mX5_lets pc L st P Q) {a0 a1 a2} {P : xH} {z : xR × xH} (h : b_X5_lets_45 n rec a0 a1 a2 P = some z) {Q : xR → xH → Prop} (hQ : Q z.1 z.2) : Wp G l 4 mX5_lets 45 [some (.ref a0), some (.int a1), some (.int a2)] [] P Q := by
  unfold b_X5_lets_45 at h
  refine x_iload_n dX5_lets_45 rfl ?_
  refine x_aload_nr dX5_lets_46 rfl ?_
  obtain ⟨v1, e2, h⟩ := Option.bind_eq_some_iff.mp h
  refine k_rA e2 dX5_lets_47 f_X5_9 ?_
  refine x_iload_n dX5_lets_50 rfl ?_
  obtain ⟨v3, e4, h⟩ := Option.bind_eq_some_iff.mp h
  refine k_aI e4 dX5_lets_51 ?_
  refine x_iconst 1 dX5_lets_52 (by decide) ?_
  refine x_icmp_ne 60 dX5_lets_53 (by decide) (fun q5 => ?_) (fun q5 => ?_)
  · rw [if_pos q5] at h
    refine x_iconst 0 dX5_lets_60 (by decide) ?_
    refine x_ior dX5_lets_61 ?_
    refine x_istore_n dX5_lets_62 (Nat.le_of_ble_eq_true rfl) ?_
    refine x_iinc (a2 + 1) dX5_lets_63 rfl (by rfl) ?_
    refine x_goto 17 dX5_lets_66 (by decide) ?_
    exact Wp.mask [true, true, true] (hrec 17 _ _ _ h _ _ rfl _ hQ)
  · rw [if_neg (fun z9 => z9 q5)] at h
    refine x_iconst 1 dX5_lets_56 (by decide) ?_
    refine x_goto 61 dX5_lets_57 (by decide) ?_
    refine x_ior dX5_lets_61 ?_
    refine x_istore_n dX5_lets_62 (Nat.le_of_ble_eq_true rfl) ?_
    refine x_iinc (a2 + 1) dX5_lets_63 rfl (by rfl) ?_
    refine x_goto 17 dX5_lets_66 (by decide) ?_
    exact Wp.mask [true, true, true] (hrec 17 _ _ _ h _ _ rfl _ hQ)
theorem s_X5_lets {G : xG} {l : Launch} (hl : l.stackTraces = false) : ∀ n pc env P z, f_X5_lets n pc env P = some z → ∀ L st, lay_X5_lets pc env = some (L, st) → ∀ Q : xR → xH → Prop, Q z.1 z.2 → Wp G l 4 mX5_lets pc L st P Q := by
  intro n
  induction n with
  | zero => intro pc env P z h; cases h
  | succ n ih =>
    intro pc env P z h L st hlay Q hQ
    unfold f_X5_lets at h
    split at h
    · cases hlay
      exact t_X5_lets_0 hl ih h hQ
    · cases hlay
      exact t_X5_lets_17 hl ih h hQ
    · cases hlay
      exact t_X5_lets_45 hl ih h hQ
    · cases h
theorem c_X5_lets {G : xG} {l : Launch} (hl : l.stackTraces = false) {n : Nat} {as : List Value} {P : xH} {z : xR × xH} (h : f_X5_lets n 0 as P = some z) : Ct G l 4 mX5_lets as P (fun r P1 => (r, P1) = z) := by
  cases n with
  | zero => cases h
  | succ n =>
    unfold f_X5_lets at h
    split at h
    · exact Ct.of hl (by decide +kernel) wc_X5_lets (Nat.le_of_ble_eq_true rfl) (t_X5_lets_0 hl (s_X5_lets hl _) h rfl)
    all_goals first | (cases h; done) | (rename_i q9 _; exact absurd q9 (by decide)) | (rename_i q9; exact absurd q9 (by decide)) | contradiction
/-! QuakeNet$Net.offerBest(II)V -/
def b_X1_offerBest_0 (n : Nat) (rec : Nat → List Value → xH → xO) (a0 : Nat) (a1 : Int32) (a2 : Int32) (P : xH) : xO :=
  (rA P a0 1 8).bind fun v1 =>
  (aI P v1 a1).bind fun v3 =>
  (rA P a0 1 8).bind fun v5 =>
  (aI P v5 a2).bind fun v7 =>
  (rA P a0 1 13).bind fun v9 =>
  (aI P v9 a2).bind fun v11 =>
  if ¬ ((((v3 &&& ((v7 ^^^ ((-1)))))) &&& ((v11 ^^^ ((-1)))))) = 0 then
    (kO P a0 1).bind fun _ =>
    (f_X1_isFull n 0 [.ref a0, .int a2] P).bind fun r14 => xI r14 fun v16 P13 =>
    if v16 = 0 then
      rec 67 [.ref a0, .int a1, .int a2, .int ((((v3 &&& ((v7 ^^^ ((-1)))))) &&& ((v11 ^^^ ((-1)))))), .int ((-1)), .int 0] P13
    else
      (kO P13 a0 1).bind fun _ =>
      (f_X1_leastOn n 0 [.ref a0, .int a2] P13).bind fun r19 => xI r19 fun v21 P18 =>
      (kO P18 a0 1).bind fun _ =>
      (f_X1_loadFacts n 0 [.ref a0, .int a2, .int v21] P18).bind fun r24 => xU r24 fun P23 =>
      (rA P23 a0 1 1).bind fun v27 =>
      (kO P23 v27 5).bind fun _ =>
      (f_X5_mark n 0 [.ref v27] P23).bind fun r30 => xI r30 fun v32 P29 =>
      rec 67 [.ref a0, .int a1, .int a2, .int ((((v3 &&& ((v7 ^^^ ((-1)))))) &&& ((v11 ^^^ ((-1)))))), .int v32, .int 0] P29
  else
    some (.inl none, P)
def b_X1_offerBest_67 (n : Nat) (rec : Nat → List Value → xH → xO) (a0 : Nat) (a1 : Int32) (a2 : Int32) (a3 : Int32) (a4 : Int32) (a5 : Int32) (P : xH) : xO :=
  (rI P a0 1 4).bind fun v1 =>
  if v1 ≤ a5 then
    some (.inl none, P)
  else
    if ((((a3 >>> (a5 &&& 31))) &&& 1)) = 0 then
      rec 67 [.ref a0, .int a1, .int a2, .int a3, .int a4, .int ((a5 + 1))] P
    else
      (rA P a0 1 0).bind fun v3 =>
      (rA P v3 9 1).bind fun v5 =>
      (aI P v5 a5).bind fun v7 =>
      (rA P a0 1 8).bind fun v9 =>
      (aI P v9 a2).bind fun v11 =>
      if ((v7 &&& v11)) = 0 then
        (kO P a0 1).bind fun _ =>
        (f_X1_loadFacts n 0 [.ref a0, .int a1, .int a5] P).bind fun r14 => xU r14 fun P13 =>
        (rA P13 a0 1 1).bind fun v17 =>
        (kO P13 v17 5).bind fun _ =>
        (f_X5_mark n 0 [.ref v17] P13).bind fun r20 => xI r20 fun v22 P19 =>
        (rI P19 a0 1 14).bind fun v24 =>
        if v24 = ((-1)) then
          rec 164 [.ref a0, .int a1, .int a2, .int a3, .int a4, .int a5, .int v22, .int 1] P19
        else
          (rI P19 a0 1 15).bind fun v26 =>
          if v26 < v22 then
            rec 164 [.ref a0, .int a1, .int a2, .int a3, .int a4, .int a5, .int v22, .int 1] P19
          else
            (rI P19 a0 1 15).bind fun v28 =>
            if ¬ v22 = v28 then
              rec 164 [.ref a0, .int a1, .int a2, .int a3, .int a4, .int a5, .int v22, .int 0] P19
            else
              (rI P19 a0 1 14).bind fun v30 =>
              if v30 ≤ a5 then
                rec 164 [.ref a0, .int a1, .int a2, .int a3, .int a4, .int a5, .int v22, .int 0] P19
              else
                rec 164 [.ref a0, .int a1, .int a2, .int a3, .int a4, .int a5, .int v22, .int 1] P19
      else
        rec 67 [.ref a0, .int a1, .int a2, .int a3, .int a4, .int ((a5 + 1))] P
def b_X1_offerBest_164 (n : Nat) (rec : Nat → List Value → xH → xO) (a0 : Nat) (a1 : Int32) (a2 : Int32) (a3 : Int32) (a4 : Int32) (a5 : Int32) (a6 : Int32) (s0 : Int32) (P : xH) : xO :=
  if s0 = 0 then
    rec 67 [.ref a0, .int a1, .int a2, .int a3, .int a4, .int ((a5 + 1))] P
  else
    if a6 ≤ a4 then
      rec 67 [.ref a0, .int a1, .int a2, .int a3, .int a4, .int ((a5 + 1))] P
    else
      (rA P a0 1 1).bind fun v1 =>
      (kO P v1 5).bind fun _ =>
      (f_X5_lets n 0 [.ref v1] P).bind fun r4 => xI r4 fun v6 P3 =>
      if v6 = 0 then
        rec 67 [.ref a0, .int a1, .int a2, .int a3, .int a4, .int ((a5 + 1))] P3
      else
        (wV P3 a0 1 14 (.int a5)).bind fun P8 =>
        (wV P8 a0 1 15 (.int a6)).bind fun P10 =>
        (wV P10 a0 1 16 (.int a1)).bind fun P12 =>
        rec 67 [.ref a0, .int a1, .int a2, .int a3, .int a4, .int ((a5 + 1))] P12
def lay_X1_offerBest : Nat → List Value → Option (xL × List Value)
  | 0, [a0, a1, a2] => some ([some a0, some a1, some a2, none, none, none, none, none], [])
  | 67, [a0, a1, a2, a3, a4, a5] => some ([some a0, some a1, some a2, some a3, some a4, some a5, none, none], [])
  | 164, [a0, a1, a2, a3, a4, a5, a6, s0] => some ([some a0, some a1, some a2, some a3, some a4, some a5, some a6, none], [s0])
  | _, _ => none
def f_X1_offerBest : Nat → Nat → List Value → xH → xO
  | 0 => fun _ _ _ => none
  | n + 1 => fun pc env P => match pc, env with
    | 0, [.ref a0, .int a1, .int a2] => b_X1_offerBest_0 n (f_X1_offerBest n) a0 a1 a2 P
    | 67, [.ref a0, .int a1, .int a2, .int a3, .int a4, .int a5] => b_X1_offerBest_67 n (f_X1_offerBest n) a0 a1 a2 a3 a4 a5 P
    | 164, [.ref a0, .int a1, .int a2, .int a3, .int a4, .int a5, .int a6, .int s0] => b_X1_offerBest_164 n (f_X1_offerBest n) a0 a1 a2 a3 a4 a5 a6 s0 P
    | _, _ => none
set_option maxHeartbeats 2000000 in
set_option maxRecDepth 20000 in
theorem t_X1_offerBest_0 {G : xG} {l : Launch} (hl : l.stackTraces = false) {n : Nat} {rec : Nat → List Value → xH → xO} (hrec : ∀ pc env P z, rec pc env P = some z → ∀ L st, lay_X1_offerBest pc env = some (L, st) → ∀ Q : xR → xH → Prop, Q z.1 z.2 → Wp G l 6 mX1_offerBest pc L st P Q) {a0 a1 a2} {P : xH} {z : xR × xH} (h : b_X1_offerBest_0 n rec a0 a1 a2 P = some z) {Q : xR → xH → Prop} (hQ : Q z.1 z.2) : Wp G l 6 mX1_offerBest 0 [some (.ref a0), some (.int a1), some (.int a2), none, none, none, none, none] [] P Q := by
  unfold b_X1_offerBest_0 at h
  refine x_aload_nr dX1_offerBest_0 rfl ?_
  obtain ⟨v1, e2, h⟩ := Option.bind_eq_some_iff.mp h
  refine k_rA e2 dX1_offerBest_1 f_X1_23 ?_
  refine x_iload_n dX1_offerBest_4 rfl ?_
  obtain ⟨v3, e4, h⟩ := Option.bind_eq_some_iff.mp h
  refine k_aI e4 dX1_offerBest_5 ?_
  refine x_aload_nr dX1_offerBest_6 rfl ?_
  obtain ⟨v5, e6, h⟩ := Option.bind_eq_some_iff.mp h
  refine k_rA e6 dX1_offerBest_7 f_X1_23 ?_
  refine x_iload_n dX1_offerBest_10 rfl ?_
  obtain ⟨v7, e8, h⟩ := Option.bind_eq_some_iff.mp h
  refine k_aI e8 dX1_offerBest_11 ?_
  refine x_iconst (-1) dX1_offerBest_12 (by decide) ?_
  refine x_ixor dX1_offerBest_13 ?_
  refine x_iand dX1_offerBest_14 ?_
  refine x_aload_nr dX1_offerBest_15 rfl ?_
  obtain ⟨v9, e10, h⟩ := Option.bind_eq_some_iff.mp h
  refine k_rA e10 dX1_offerBest_16 f_X1_39 ?_
  refine x_iload_n dX1_offerBest_19 rfl ?_
  obtain ⟨v11, e12, h⟩ := Option.bind_eq_some_iff.mp h
  refine k_aI e12 dX1_offerBest_20 ?_
  refine x_iconst (-1) dX1_offerBest_21 (by decide) ?_
  refine x_ixor dX1_offerBest_22 ?_
  refine x_iand dX1_offerBest_23 ?_
  refine x_istore_n dX1_offerBest_24 (Nat.le_of_ble_eq_true rfl) ?_
  refine x_iload_n dX1_offerBest_25 rfl ?_
  refine x_if_ne 30 dX1_offerBest_26 (by decide) (fun q35 => ?_) (fun q35 => ?_)
  · rw [if_pos q35] at h
    refine x_iconst (-1) dX1_offerBest_30 (by decide) ?_
    refine x_istore dX1_offerBest_31 (Nat.le_of_ble_eq_true rfl) ?_
    refine x_aload_nr dX1_offerBest_33 rfl ?_
    refine x_iload_n dX1_offerBest_34 rfl ?_
    obtain ⟨_, e17, h⟩ := Option.bind_eq_some_iff.mp h
    obtain ⟨fse17, e17⟩ := kO_ok e17
    obtain ⟨r14, e15, h⟩ := Option.bind_eq_some_iff.mp h
    replace h := xI_ok h
    obtain ⟨v16, P13, rfl, h⟩ := h
    refine x_callV (c_X1_isFull hl e15) dX1_offerBest_35 cw_X1_isFull wl_X1_101 wi_X1_isFull wse_X1_isFull rfl e17 (by decide) rfl (by omega) (by decide) rfl (Nat.le_of_ble_eq_true rfl) rfl (fun v9 P9 hq9 => ?_) (fun i9 P9 hq9 => by cases hq9)
    cases hq9
    refine x_if_eq 64 dX1_offerBest_38 (by decide) (fun q34 => ?_) (fun q34 => ?_)
    · rw [if_pos q34] at h
      refine x_iconst 0 dX1_offerBest_64 (by decide) ?_
      refine x_istore dX1_offerBest_65 (Nat.le_of_ble_eq_true rfl) ?_
      exact Wp.mask [true, true, true, true, true, true, false, false] (hrec 67 _ _ _ h _ _ rfl _ hQ)
    · rw [if_neg q34] at h
      refine x_aload_nr dX1_offerBest_41 rfl ?_
      refine x_iload_n dX1_offerBest_42 rfl ?_
      obtain ⟨_, e22, h⟩ := Option.bind_eq_some_iff.mp h
      obtain ⟨fse22, e22⟩ := kO_ok e22
      obtain ⟨r19, e20, h⟩ := Option.bind_eq_some_iff.mp h
      replace h := xI_ok h
      obtain ⟨v21, P18, rfl, h⟩ := h
      refine x_callV (c_X1_leastOn hl e20) dX1_offerBest_43 cw_X1_leastOn wl_X1_105 wi_X1_leastOn wse_X1_leastOn rfl e22 (by decide) rfl (by omega) (by decide) rfl (Nat.le_of_ble_eq_true rfl) rfl (fun v9 P9 hq9 => ?_) (fun i9 P9 hq9 => by cases hq9)
      cases hq9
      refine x_istore dX1_offerBest_46 (Nat.le_of_ble_eq_true rfl) ?_
      refine x_aload_nr dX1_offerBest_48 rfl ?_
      refine x_iload_n dX1_offerBest_49 rfl ?_
      refine x_iload dX1_offerBest_50 rfl ?_
      obtain ⟨_, e26, h⟩ := Option.bind_eq_some_iff.mp h
      obtain ⟨fse26, e26⟩ := kO_ok e26
      obtain ⟨r24, e25, h⟩ := Option.bind_eq_some_iff.mp h
      replace h := xU_ok h
      obtain ⟨P23, rfl, h⟩ := h
      refine x_callV (c_X1_loadFacts hl e25) dX1_offerBest_52 cw_X1_loadFacts wl_X1_145 wi_X1_loadFacts wse_X1_loadFacts rfl e26 (by decide) rfl (by omega) (by decide) rfl (Nat.le_of_ble_eq_true rfl) rfl (fun v9 P9 hq9 => ?_) (fun i9 P9 hq9 => by cases hq9)
      cases hq9
      refine x_aload_nr dX1_offerBest_55 rfl ?_
      obtain ⟨v27, e28, h⟩ := Option.bind_eq_some_iff.mp h
      refine k_rA e28 dX1_offerBest_56 f_X1_46 ?_
      obtain ⟨_, e33, h⟩ := Option.bind_eq_some_iff.mp h
      obtain ⟨fse33, e33⟩ := kO_ok e33
      obtain ⟨r30, e31, h⟩ := Option.bind_eq_some_iff.mp h
      replace h := xI_ok h
      obtain ⟨v32, P29, rfl, h⟩ := h
      refine x_callV (c_X5_mark hl e31) dX1_offerBest_59 cw_X5_mark wl_X1_148 wi_X5_mark wse_X5_mark rfl e33 (by decide) rfl (by omega) (by decide) rfl (Nat.le_of_ble_eq_true rfl) rfl (fun v9 P9 hq9 => ?_) (fun i9 P9 hq9 => by cases hq9)
      cases hq9
      refine x_istore dX1_offerBest_62 (Nat.le_of_ble_eq_true rfl) ?_
      refine x_iconst 0 dX1_offerBest_64 (by decide) ?_
      refine x_istore dX1_offerBest_65 (Nat.le_of_ble_eq_true rfl) ?_
      exact Wp.mask [true, true, true, true, true, true, false, false] (hrec 67 _ _ _ h _ _ rfl _ hQ)
  · rw [if_neg (fun z9 => z9 q35)] at h
    cases h
    exact x_ret rfl dX1_offerBest_29 hQ
set_option maxHeartbeats 2000000 in
set_option maxRecDepth 20000 in
theorem t_X1_offerBest_67 {G : xG} {l : Launch} (hl : l.stackTraces = false) {n : Nat} {rec : Nat → List Value → xH → xO} (hrec : ∀ pc env P z, rec pc env P = some z → ∀ L st, lay_X1_offerBest pc env = some (L, st) → ∀ Q : xR → xH → Prop, Q z.1 z.2 → Wp G l 6 mX1_offerBest pc L st P Q) {a0 a1 a2 a3 a4 a5} {P : xH} {z : xR × xH} (h : b_X1_offerBest_67 n rec a0 a1 a2 a3 a4 a5 P = some z) {Q : xR → xH → Prop} (hQ : Q z.1 z.2) : Wp G l 6 mX1_offerBest 67 [some (.ref a0), some (.int a1), some (.int a2), some (.int a3), some (.int a4), some (.int a5), none, none] [] P Q := by
  unfold b_X1_offerBest_67 at h
  refine x_iload dX1_offerBest_67 rfl ?_
  refine x_aload_nr dX1_offerBest_69 rfl ?_
  obtain ⟨v1, e2, h⟩ := Option.bind_eq_some_iff.mp h
  refine k_rI e2 dX1_offerBest_70 f_X1_63 ?_
  refine x_icmp_ge 211 dX1_offerBest_73 (by decide) (fun q38 => ?_) (fun q38 => ?_)
  · rw [if_pos q38] at h
    cases h
    exact x_ret rfl dX1_offerBest_211 hQ
  · rw [if_neg q38] at h
    refine x_iload_n dX1_offerBest_76 rfl ?_
    refine x_iload dX1_offerBest_77 rfl ?_
    refine x_ishr dX1_offerBest_79 ?_
    refine x_iconst 1 dX1_offerBest_80 (by decide) ?_
    refine x_iand dX1_offerBest_81 ?_
    refine x_if_eq 205 dX1_offerBest_82 (by decide) (fun q37 => ?_) (fun q37 => ?_)
    · rw [if_pos q37] at h
      refine x_iinc (a5 + 1) dX1_offerBest_205 rfl (by rfl) ?_
      refine x_goto 67 dX1_offerBest_208 (by decide) ?_
      exact Wp.mask [true, true, true, true, true, true, false, false] (hrec 67 _ _ _ h _ _ rfl _ hQ)
    · rw [if_neg q37] at h
      refine x_aload_nr dX1_offerBest_85 rfl ?_
      obtain ⟨v3, e4, h⟩ := Option.bind_eq_some_iff.mp h
      refine k_rA e4 dX1_offerBest_86 f_X1_42 ?_
      obtain ⟨v5, e6, h⟩ := Option.bind_eq_some_iff.mp h
      refine k_rA e6 dX1_offerBest_89 f_X1_154 ?_
      refine x_iload dX1_offerBest_92 rfl ?_
      obtain ⟨v7, e8, h⟩ := Option.bind_eq_some_iff.mp h
      refine k_aI e8 dX1_offerBest_94 ?_
      refine x_aload_nr dX1_offerBest_95 rfl ?_
      obtain ⟨v9, e10, h⟩ := Option.bind_eq_some_iff.mp h
      refine k_rA e10 dX1_offerBest_96 f_X1_23 ?_
      refine x_iload_n dX1_offerBest_99 rfl ?_
      obtain ⟨v11, e12, h⟩ := Option.bind_eq_some_iff.mp h
      refine k_aI e12 dX1_offerBest_100 ?_
      refine x_iand dX1_offerBest_101 ?_
      refine x_if_eq 108 dX1_offerBest_102 (by decide) (fun q36 => ?_) (fun q36 => ?_)
      · rw [if_pos q36] at h
        refine x_aload_nr dX1_offerBest_108 rfl ?_
        refine x_iload_n dX1_offerBest_109 rfl ?_
        refine x_iload dX1_offerBest_110 rfl ?_
        obtain ⟨_, e16, h⟩ := Option.bind_eq_some_iff.mp h
        obtain ⟨fse16, e16⟩ := kO_ok e16
        obtain ⟨r14, e15, h⟩ := Option.bind_eq_some_iff.mp h
        replace h := xU_ok h
        obtain ⟨P13, rfl, h⟩ := h
        refine x_callV (c_X1_loadFacts hl e15) dX1_offerBest_112 cw_X1_loadFacts wl_X1_145 wi_X1_loadFacts wse_X1_loadFacts rfl e16 (by decide) rfl (by omega) (by decide) rfl (Nat.le_of_ble_eq_true rfl) rfl (fun v9 P9 hq9 => ?_) (fun i9 P9 hq9 => by cases hq9)
        cases hq9
        refine x_aload_nr dX1_offerBest_115 rfl ?_
        obtain ⟨v17, e18, h⟩ := Option.bind_eq_some_iff.mp h
        refine k_rA e18 dX1_offerBest_116 f_X1_46 ?_
        obtain ⟨_, e23, h⟩ := Option.bind_eq_some_iff.mp h
        obtain ⟨fse23, e23⟩ := kO_ok e23
        obtain ⟨r20, e21, h⟩ := Option.bind_eq_some_iff.mp h
        replace h := xI_ok h
        obtain ⟨v22, P19, rfl, h⟩ := h
        refine x_callV (c_X5_mark hl e21) dX1_offerBest_119 cw_X5_mark wl_X1_148 wi_X5_mark wse_X5_mark rfl e23 (by decide) rfl (by omega) (by decide) rfl (Nat.le_of_ble_eq_true rfl) rfl (fun v9 P9 hq9 => ?_) (fun i9 P9 hq9 => by cases hq9)
        cases hq9
        refine x_istore dX1_offerBest_122 (Nat.le_of_ble_eq_true rfl) ?_
        refine x_aload_nr dX1_offerBest_124 rfl ?_
        obtain ⟨v24, e25, h⟩ := Option.bind_eq_some_iff.mp h
        refine k_rI e25 dX1_offerBest_125 f_X1_132 ?_
        refine x_iconst (-1) dX1_offerBest_128 (by decide) ?_
        refine x_icmp_eq 159 dX1_offerBest_129 (by decide) (fun q35 => ?_) (fun q35 => ?_)
        · rw [if_pos q35] at h
          refine x_iconst 1 dX1_offerBest_159 (by decide) ?_
          refine x_goto 164 dX1_offerBest_160 (by decide) ?_
          exact Wp.mask [true, true, true, true, true, true, true, false] (hrec 164 _ _ _ h _ _ rfl _ hQ)
        · rw [if_neg q35] at h
          refine x_iload dX1_offerBest_132 rfl ?_
          refine x_aload_nr dX1_offerBest_134 rfl ?_
          obtain ⟨v26, e27, h⟩ := Option.bind_eq_some_iff.mp h
          refine k_rI e27 dX1_offerBest_135 f_X1_157 ?_
          refine x_icmp_gt 159 dX1_offerBest_138 (by decide) (fun q34 => ?_) (fun q34 => ?_)
          · rw [if_pos q34] at h
            refine x_iconst 1 dX1_offerBest_159 (by decide) ?_
            refine x_goto 164 dX1_offerBest_160 (by decide) ?_
            exact Wp.mask [true, true, true, true, true, true, true, false] (hrec 164 _ _ _ h _ _ rfl _ hQ)
          · rw [if_neg q34] at h
            refine x_iload dX1_offerBest_141 rfl ?_
            refine x_aload_nr dX1_offerBest_143 rfl ?_
            obtain ⟨v28, e29, h⟩ := Option.bind_eq_some_iff.mp h
            refine k_rI e29 dX1_offerBest_144 f_X1_157 ?_
            refine x_icmp_ne 163 dX1_offerBest_147 (by decide) (fun q33 => ?_) (fun q33 => ?_)
            · rw [if_pos q33] at h
              refine x_iconst 0 dX1_offerBest_163 (by decide) ?_
              exact Wp.mask [true, true, true, true, true, true, true, false] (hrec 164 _ _ _ h _ _ rfl _ hQ)
            · rw [if_neg (fun z9 => z9 q33)] at h
              refine x_iload dX1_offerBest_150 rfl ?_
              refine x_aload_nr dX1_offerBest_152 rfl ?_
              obtain ⟨v30, e31, h⟩ := Option.bind_eq_some_iff.mp h
              refine k_rI e31 dX1_offerBest_153 f_X1_132 ?_
              refine x_icmp_ge 163 dX1_offerBest_156 (by decide) (fun q32 => ?_) (fun q32 => ?_)
              · rw [if_pos q32] at h
                refine x_iconst 0 dX1_offerBest_163 (by decide) ?_
                exact Wp.mask [true, true, true, true, true, true, true, false] (hrec 164 _ _ _ h _ _ rfl _ hQ)
              · rw [if_neg q32] at h
                refine x_iconst 1 dX1_offerBest_159 (by decide) ?_
                refine x_goto 164 dX1_offerBest_160 (by decide) ?_
                exact Wp.mask [true, true, true, true, true, true, true, false] (hrec 164 _ _ _ h _ _ rfl _ hQ)
      · rw [if_neg q36] at h
        refine x_goto 205 dX1_offerBest_105 (by decide) ?_
        refine x_iinc (a5 + 1) dX1_offerBest_205 rfl (by rfl) ?_
        refine x_goto 67 dX1_offerBest_208 (by decide) ?_
        exact Wp.mask [true, true, true, true, true, true, false, false] (hrec 67 _ _ _ h _ _ rfl _ hQ)
set_option maxHeartbeats 2000000 in
set_option maxRecDepth 20000 in
theorem t_X1_offerBest_164 {G : xG} {l : Launch} (hl : l.stackTraces = false) {n : Nat} {rec : Nat → List Value → xH → xO} (hrec : ∀ pc env P z, rec pc env P = some z → ∀ L st, lay_X1_offerBest pc env = some (L, st) → ∀ Q : xR → xH → Prop, Q z.1 z.2 → Wp G l 6 mX1_offerBest pc L st P Q) {a0 a1 a2 a3 a4 a5 a6 s0} {P : xH} {z : xR × xH} (h : b_X1_offerBest_164 n rec a0 a1 a2 a3 a4 a5 a6 s0 P = some z) {Q : xR → xH → Prop} (hQ : Q z.1 z.2) : Wp G l 6 mX1_offerBest 164 [some (.ref a0), some (.int a1), some (.int a2), some (.int a3), some (.int a4), some (.int a5), some (.int a6), none] [.int s0] P Q := by
  unfold b_X1_offerBest_164 at h
  refine x_istore dX1_offerBest_164 (Nat.le_of_ble_eq_true rfl) ?_
  refine x_iload dX1_offerBest_166 rfl ?_
  refine x_if_eq 205 dX1_offerBest_168 (by decide) (fun q16 => ?_) (fun q16 => ?_)
  · rw [if_pos q16] at h
    refine x_iinc (a5 + 1) dX1_offerBest_205 rfl (by rfl) ?_
    refine x_goto 67 dX1_offerBest_208 (by decide) ?_
    exact Wp.mask [true, true, true, true, true, true, false, false] (hrec 67 _ _ _ h _ _ rfl _ hQ)
  · rw [if_neg q16] at h
    refine x_iload dX1_offerBest_171 rfl ?_
    refine x_iload dX1_offerBest_173 rfl ?_
    refine x_icmp_le 205 dX1_offerBest_175 (by decide) (fun q15 => ?_) (fun q15 => ?_)
    · rw [if_pos q15] at h
      refine x_iinc (a5 + 1) dX1_offerBest_205 rfl (by rfl) ?_
      refine x_goto 67 dX1_offerBest_208 (by decide) ?_
      exact Wp.mask [true, true, true, true, true, true, false, false] (hrec 67 _ _ _ h _ _ rfl _ hQ)
    · rw [if_neg q15] at h
      refine x_aload_nr dX1_offerBest_178 rfl ?_
      obtain ⟨v1, e2, h⟩ := Option.bind_eq_some_iff.mp h
      refine k_rA e2 dX1_offerBest_179 f_X1_46 ?_
      obtain ⟨_, e7, h⟩ := Option.bind_eq_some_iff.mp h
      obtain ⟨fse7, e7⟩ := kO_ok e7
      obtain ⟨r4, e5, h⟩ := Option.bind_eq_some_iff.mp h
      replace h := xI_ok h
      obtain ⟨v6, P3, rfl, h⟩ := h
      refine x_callV (c_X5_lets hl e5) dX1_offerBest_182 cw_X5_lets wl_X1_160 wi_X5_lets wse_X5_lets rfl e7 (by decide) rfl (by omega) (by decide) rfl (Nat.le_of_ble_eq_true rfl) rfl (fun v9 P9 hq9 => ?_) (fun i9 P9 hq9 => by cases hq9)
      cases hq9
      refine x_if_eq 205 dX1_offerBest_185 (by decide) (fun q14 => ?_) (fun q14 => ?_)
      · rw [if_pos q14] at h
        refine x_iinc (a5 + 1) dX1_offerBest_205 rfl (by rfl) ?_
        refine x_goto 67 dX1_offerBest_208 (by decide) ?_
        exact Wp.mask [true, true, true, true, true, true, false, false] (hrec 67 _ _ _ h _ _ rfl _ hQ)
      · rw [if_neg q14] at h
        refine x_aload_nr dX1_offerBest_188 rfl ?_
        refine x_iload dX1_offerBest_189 rfl ?_
        obtain ⟨P8, e9, h⟩ := Option.bind_eq_some_iff.mp h
        refine k_wI e9 dX1_offerBest_191 f_X1_132 (Or.inl (by decide)) rfl ?_
        refine x_aload_nr dX1_offerBest_194 rfl ?_
        refine x_iload dX1_offerBest_195 rfl ?_
        obtain ⟨P10, e11, h⟩ := Option.bind_eq_some_iff.mp h
        refine k_wI e11 dX1_offerBest_197 f_X1_157 (Or.inl (by decide)) rfl ?_
        refine x_aload_nr dX1_offerBest_200 rfl ?_
        refine x_iload_n dX1_offerBest_201 rfl ?_
        obtain ⟨P12, e13, h⟩ := Option.bind_eq_some_iff.mp h
        refine k_wI e13 dX1_offerBest_202 f_X1_138 (Or.inl (by decide)) rfl ?_
        refine x_iinc (a5 + 1) dX1_offerBest_205 rfl (by rfl) ?_
        refine x_goto 67 dX1_offerBest_208 (by decide) ?_
        exact Wp.mask [true, true, true, true, true, true, false, false] (hrec 67 _ _ _ h _ _ rfl _ hQ)
theorem s_X1_offerBest {G : xG} {l : Launch} (hl : l.stackTraces = false) : ∀ n pc env P z, f_X1_offerBest n pc env P = some z → ∀ L st, lay_X1_offerBest pc env = some (L, st) → ∀ Q : xR → xH → Prop, Q z.1 z.2 → Wp G l 6 mX1_offerBest pc L st P Q := by
  intro n
  induction n with
  | zero => intro pc env P z h; cases h
  | succ n ih =>
    intro pc env P z h L st hlay Q hQ
    unfold f_X1_offerBest at h
    split at h
    · cases hlay
      exact t_X1_offerBest_0 hl ih h hQ
    · cases hlay
      exact t_X1_offerBest_67 hl ih h hQ
    · cases hlay
      exact t_X1_offerBest_164 hl ih h hQ
    · cases h
theorem c_X1_offerBest {G : xG} {l : Launch} (hl : l.stackTraces = false) {n : Nat} {as : List Value} {P : xH} {z : xR × xH} (h : f_X1_offerBest n 0 as P = some z) : Ct G l 6 mX1_offerBest as P (fun r P1 => (r, P1) = z) := by
  cases n with
  | zero => cases h
  | succ n =>
    unfold f_X1_offerBest at h
    split at h
    · exact Ct.of hl (by decide +kernel) wc_X1_offerBest (Nat.le_of_ble_eq_true rfl) (t_X1_offerBest_0 hl (s_X1_offerBest hl _) h rfl)
    all_goals first | (cases h; done) | (rename_i q9 _; exact absurd q9 (by decide)) | (rename_i q9; exact absurd q9 (by decide)) | contradiction
/-! QuakeNet$Net.meet(II)V -/
def b_X1_meet_0 (n : Nat) (rec : Nat → List Value → xH → xO) (a0 : Nat) (a1 : Int32) (a2 : Int32) (P : xH) : xO :=
  (rA P a0 1 13).bind fun v1 =>
  (sI P v1 a1 0).bind fun P3 =>
  (rA P3 a0 1 13).bind fun v5 =>
  (sI P3 v5 a2 0).bind fun P7 =>
  rec 16 [.ref a0, .int a1, .int a2, .int 0] P7
def b_X1_meet_16 (n : Nat) (rec : Nat → List Value → xH → xO) (a0 : Nat) (a1 : Int32) (a2 : Int32) (a3 : Int32) (P : xH) : xO :=
  if 2000 ≤ a3 then
    some (.inl none, P)
  else
    (rA P a0 1 5).bind fun v1 =>
    (aA P v1 1).bind fun v3 =>
    (aI P v3 a1).bind fun v5 =>
    if v5 ≤ 0 then
      some (.inl none, P)
    else
      (rA P a0 1 5).bind fun v7 =>
      (aA P v7 1).bind fun v9 =>
      (aI P v9 a2).bind fun v11 =>
      if v11 ≤ 0 then
        some (.inl none, P)
      else
        (wV P a0 1 14 (.int ((-1)))).bind fun P13 =>
        (kO P13 a0 1).bind fun _ =>
        (f_X1_offerBest n 0 [.ref a0, .int a1, .int a2] P13).bind fun r16 => xU r16 fun P15 =>
        (kO P15 a0 1).bind fun _ =>
        (f_X1_offerBest n 0 [.ref a0, .int a2, .int a1] P15).bind fun r20 => xU r20 fun P19 =>
        (rI P19 a0 1 14).bind fun v23 =>
        if ¬ v23 = ((-1)) then
          (rI P19 a0 1 16).bind fun v25 =>
          (rI P19 a0 1 16).bind fun v27 =>
          if ¬ v27 = a1 then
            rec 89 [.ref a0, .int a1, .int a2, .int a3, .ref a0, .int v25, .int a1] P19
          else
            rec 89 [.ref a0, .int a1, .int a2, .int a3, .ref a0, .int v25, .int a2] P19
        else
          some (.inl none, P19)
def b_X1_meet_89 (n : Nat) (rec : Nat → List Value → xH → xO) (a0 : Nat) (a1 : Int32) (a2 : Int32) (a3 : Int32) (s0 : Nat) (s1 : Int32) (s2 : Int32) (P : xH) : xO :=
  (rI P a0 1 14).bind fun v1 =>
  (kO P s0 1).bind fun _ =>
  (f_X1_hand n 0 [.ref s0, .int s1, .int s2, .int v1] P).bind fun r4 => xU r4 fun P3 =>
  rec 16 [.ref a0, .int a1, .int a2, .int ((a3 + 1))] P3
def lay_X1_meet : Nat → List Value → Option (xL × List Value)
  | 0, [a0, a1, a2] => some ([some a0, some a1, some a2, none], [])
  | 16, [a0, a1, a2, a3] => some ([some a0, some a1, some a2, some a3], [])
  | 89, [a0, a1, a2, a3, s0, s1, s2] => some ([some a0, some a1, some a2, some a3], [s2, s1, s0])
  | _, _ => none
def f_X1_meet : Nat → Nat → List Value → xH → xO
  | 0 => fun _ _ _ => none
  | n + 1 => fun pc env P => match pc, env with
    | 0, [.ref a0, .int a1, .int a2] => b_X1_meet_0 n (f_X1_meet n) a0 a1 a2 P
    | 16, [.ref a0, .int a1, .int a2, .int a3] => b_X1_meet_16 n (f_X1_meet n) a0 a1 a2 a3 P
    | 89, [.ref a0, .int a1, .int a2, .int a3, .ref s0, .int s1, .int s2] => b_X1_meet_89 n (f_X1_meet n) a0 a1 a2 a3 s0 s1 s2 P
    | _, _ => none
set_option maxHeartbeats 2000000 in
set_option maxRecDepth 20000 in
theorem t_X1_meet_0 {G : xG} {l : Launch} (hl : l.stackTraces = false) {n : Nat} {rec : Nat → List Value → xH → xO} (hrec : ∀ pc env P z, rec pc env P = some z → ∀ L st, lay_X1_meet pc env = some (L, st) → ∀ Q : xR → xH → Prop, Q z.1 z.2 → Wp G l 8 mX1_meet pc L st P Q) {a0 a1 a2} {P : xH} {z : xR × xH} (h : b_X1_meet_0 n rec a0 a1 a2 P = some z) {Q : xR → xH → Prop} (hQ : Q z.1 z.2) : Wp G l 8 mX1_meet 0 [some (.ref a0), some (.int a1), some (.int a2), none] [] P Q := by
  unfold b_X1_meet_0 at h
  refine x_aload_nr dX1_meet_0 rfl ?_
  obtain ⟨v1, e2, h⟩ := Option.bind_eq_some_iff.mp h
  refine k_rA e2 dX1_meet_1 f_X1_39 ?_
  refine x_iload_n dX1_meet_4 rfl ?_
  refine x_iconst 0 dX1_meet_5 (by decide) ?_
  obtain ⟨P3, e4, h⟩ := Option.bind_eq_some_iff.mp h
  refine k_sI e4 dX1_meet_6 ?_
  refine x_aload_nr dX1_meet_7 rfl ?_
  obtain ⟨v5, e6, h⟩ := Option.bind_eq_some_iff.mp h
  refine k_rA e6 dX1_meet_8 f_X1_39 ?_
  refine x_iload_n dX1_meet_11 rfl ?_
  refine x_iconst 0 dX1_meet_12 (by decide) ?_
  obtain ⟨P7, e8, h⟩ := Option.bind_eq_some_iff.mp h
  refine k_sI e8 dX1_meet_13 ?_
  refine x_iconst 0 dX1_meet_14 (by decide) ?_
  refine x_istore_n dX1_meet_15 (Nat.le_of_ble_eq_true rfl) ?_
  exact Wp.mask [true, true, true, true] (hrec 16 _ _ _ h _ _ rfl _ hQ)
set_option maxHeartbeats 2000000 in
set_option maxRecDepth 20000 in
theorem t_X1_meet_16 {G : xG} {l : Launch} (hl : l.stackTraces = false) {n : Nat} {rec : Nat → List Value → xH → xO} (hrec : ∀ pc env P z, rec pc env P = some z → ∀ L st, lay_X1_meet pc env = some (L, st) → ∀ Q : xR → xH → Prop, Q z.1 z.2 → Wp G l 8 mX1_meet pc L st P Q) {a0 a1 a2 a3} {P : xH} {z : xR × xH} (h : b_X1_meet_16 n rec a0 a1 a2 a3 P = some z) {Q : xR → xH → Prop} (hQ : Q z.1 z.2) : Wp G l 8 mX1_meet 16 [some (.ref a0), some (.int a1), some (.int a2), some (.int a3)] [] P Q := by
  unfold b_X1_meet_16 at h
  refine x_iload_n dX1_meet_16 rfl ?_
  refine x_sipush 2000 dX1_meet_17 (by decide) ?_
  refine x_icmp_ge 102 dX1_meet_20 (by decide) (fun q33 => ?_) (fun q33 => ?_)
  · rw [if_pos q33] at h
    cases h
    exact x_ret rfl dX1_meet_102 hQ
  · rw [if_neg q33] at h
    refine x_aload_nr dX1_meet_23 rfl ?_
    obtain ⟨v1, e2, h⟩ := Option.bind_eq_some_iff.mp h
    refine k_rA e2 dX1_meet_24 f_X1_13 ?_
    refine x_iconst 1 dX1_meet_27 (by decide) ?_
    obtain ⟨v3, e4, h⟩ := Option.bind_eq_some_iff.mp h
    refine k_aA e4 dX1_meet_28 ?_
    refine x_iload_n dX1_meet_29 rfl ?_
    obtain ⟨v5, e6, h⟩ := Option.bind_eq_some_iff.mp h
    refine k_aI e6 dX1_meet_30 ?_
    refine x_if_le 102 dX1_meet_31 (by decide) (fun q32 => ?_) (fun q32 => ?_)
    · rw [if_pos q32] at h
      cases h
      exact x_ret rfl dX1_meet_102 hQ
    · rw [if_neg q32] at h
      refine x_aload_nr dX1_meet_34 rfl ?_
      obtain ⟨v7, e8, h⟩ := Option.bind_eq_some_iff.mp h
      refine k_rA e8 dX1_meet_35 f_X1_13 ?_
      refine x_iconst 1 dX1_meet_38 (by decide) ?_
      obtain ⟨v9, e10, h⟩ := Option.bind_eq_some_iff.mp h
      refine k_aA e10 dX1_meet_39 ?_
      refine x_iload_n dX1_meet_40 rfl ?_
      obtain ⟨v11, e12, h⟩ := Option.bind_eq_some_iff.mp h
      refine k_aI e12 dX1_meet_41 ?_
      refine x_if_le 102 dX1_meet_42 (by decide) (fun q31 => ?_) (fun q31 => ?_)
      · rw [if_pos q31] at h
        cases h
        exact x_ret rfl dX1_meet_102 hQ
      · rw [if_neg q31] at h
        refine x_aload_nr dX1_meet_45 rfl ?_
        refine x_iconst (-1) dX1_meet_46 (by decide) ?_
        obtain ⟨P13, e14, h⟩ := Option.bind_eq_some_iff.mp h
        refine k_wI e14 dX1_meet_47 f_X1_132 (Or.inl (by decide)) rfl ?_
        refine x_aload_nr dX1_meet_50 rfl ?_
        refine x_iload_n dX1_meet_51 rfl ?_
        refine x_iload_n dX1_meet_52 rfl ?_
        obtain ⟨_, e18, h⟩ := Option.bind_eq_some_iff.mp h
        obtain ⟨fse18, e18⟩ := kO_ok e18
        obtain ⟨r16, e17, h⟩ := Option.bind_eq_some_iff.mp h
        replace h := xU_ok h
        obtain ⟨P15, rfl, h⟩ := h
        refine x_callV (c_X1_offerBest hl e17) dX1_meet_53 cw_X1_offerBest wl_X1_135 wi_X1_offerBest wse_X1_offerBest rfl e18 (by decide) rfl (by omega) (by decide) rfl (Nat.le_of_ble_eq_true rfl) rfl (fun v9 P9 hq9 => ?_) (fun i9 P9 hq9 => by cases hq9)
        cases hq9
        refine x_aload_nr dX1_meet_56 rfl ?_
        refine x_iload_n dX1_meet_57 rfl ?_
        refine x_iload_n dX1_meet_58 rfl ?_
        obtain ⟨_, e22, h⟩ := Option.bind_eq_some_iff.mp h
        obtain ⟨fse22, e22⟩ := kO_ok e22
        obtain ⟨r20, e21, h⟩ := Option.bind_eq_some_iff.mp h
        replace h := xU_ok h
        obtain ⟨P19, rfl, h⟩ := h
        refine x_callV (c_X1_offerBest hl e21) dX1_meet_59 cw_X1_offerBest wl_X1_135 wi_X1_offerBest wse_X1_offerBest rfl e22 (by decide) rfl (by omega) (by decide) rfl (Nat.le_of_ble_eq_true rfl) rfl (fun v9 P9 hq9 => ?_) (fun i9 P9 hq9 => by cases hq9)
        cases hq9
        refine x_aload_nr dX1_meet_62 rfl ?_
        obtain ⟨v23, e24, h⟩ := Option.bind_eq_some_iff.mp h
        refine k_rI e24 dX1_meet_63 f_X1_132 ?_
        refine x_iconst (-1) dX1_meet_66 (by decide) ?_
        refine x_icmp_ne 71 dX1_meet_67 (by decide) (fun q30 => ?_) (fun q30 => ?_)
        · rw [if_pos q30] at h
          refine x_aload_nr dX1_meet_71 rfl ?_
          refine x_aload_nr dX1_meet_72 rfl ?_
          obtain ⟨v25, e26, h⟩ := Option.bind_eq_some_iff.mp h
          refine k_rI e26 dX1_meet_73 f_X1_138 ?_
          refine x_aload_nr dX1_meet_76 rfl ?_
          obtain ⟨v27, e28, h⟩ := Option.bind_eq_some_iff.mp h
          refine k_rI e28 dX1_meet_77 f_X1_138 ?_
          refine x_iload_n dX1_meet_80 rfl ?_
          refine x_icmp_ne 88 dX1_meet_81 (by decide) (fun q29 => ?_) (fun q29 => ?_)
          · rw [if_pos q29] at h
            refine x_iload_n dX1_meet_88 rfl ?_
            exact Wp.mask [true, true, true, true] (hrec 89 _ _ _ h _ _ rfl _ hQ)
          · rw [if_neg (fun z9 => z9 q29)] at h
            refine x_iload_n dX1_meet_84 rfl ?_
            refine x_goto 89 dX1_meet_85 (by decide) ?_
            exact Wp.mask [true, true, true, true] (hrec 89 _ _ _ h _ _ rfl _ hQ)
        · rw [if_neg (fun z9 => z9 q30)] at h
          cases h
          exact x_ret rfl dX1_meet_70 hQ
set_option maxHeartbeats 2000000 in
set_option maxRecDepth 20000 in
theorem t_X1_meet_89 {G : xG} {l : Launch} (hl : l.stackTraces = false) {n : Nat} {rec : Nat → List Value → xH → xO} (hrec : ∀ pc env P z, rec pc env P = some z → ∀ L st, lay_X1_meet pc env = some (L, st) → ∀ Q : xR → xH → Prop, Q z.1 z.2 → Wp G l 8 mX1_meet pc L st P Q) {a0 a1 a2 a3 s0 s1 s2} {P : xH} {z : xR × xH} (h : b_X1_meet_89 n rec a0 a1 a2 a3 s0 s1 s2 P = some z) {Q : xR → xH → Prop} (hQ : Q z.1 z.2) : Wp G l 8 mX1_meet 89 [some (.ref a0), some (.int a1), some (.int a2), some (.int a3)] [.int s2, .int s1, .ref s0] P Q := by
  unfold b_X1_meet_89 at h
  refine x_aload_nr dX1_meet_89 rfl ?_
  obtain ⟨v1, e2, h⟩ := Option.bind_eq_some_iff.mp h
  refine k_rI e2 dX1_meet_90 f_X1_132 ?_
  obtain ⟨_, e6, h⟩ := Option.bind_eq_some_iff.mp h
  obtain ⟨fse6, e6⟩ := kO_ok e6
  obtain ⟨r4, e5, h⟩ := Option.bind_eq_some_iff.mp h
  replace h := xU_ok h
  obtain ⟨P3, rfl, h⟩ := h
  refine x_callV (c_X1_hand hl e5) dX1_meet_93 cw_X1_hand wl_X1_141 wi_X1_hand wse_X1_hand rfl e6 (by decide) rfl (by omega) (by decide) rfl (Nat.le_of_ble_eq_true rfl) rfl (fun v9 P9 hq9 => ?_) (fun i9 P9 hq9 => by cases hq9)
  cases hq9
  refine x_iinc (a3 + 1) dX1_meet_96 rfl (by rfl) ?_
  refine x_goto 16 dX1_meet_99 (by decide) ?_
  exact Wp.mask [true, true, true, true] (hrec 16 _ _ _ h _ _ rfl _ hQ)
theorem s_X1_meet {G : xG} {l : Launch} (hl : l.stackTraces = false) : ∀ n pc env P z, f_X1_meet n pc env P = some z → ∀ L st, lay_X1_meet pc env = some (L, st) → ∀ Q : xR → xH → Prop, Q z.1 z.2 → Wp G l 8 mX1_meet pc L st P Q := by
  intro n
  induction n with
  | zero => intro pc env P z h; cases h
  | succ n ih =>
    intro pc env P z h L st hlay Q hQ
    unfold f_X1_meet at h
    split at h
    · cases hlay
      exact t_X1_meet_0 hl ih h hQ
    · cases hlay
      exact t_X1_meet_16 hl ih h hQ
    · cases hlay
      exact t_X1_meet_89 hl ih h hQ
    · cases h
theorem c_X1_meet {G : xG} {l : Launch} (hl : l.stackTraces = false) {n : Nat} {as : List Value} {P : xH} {z : xR × xH} (h : f_X1_meet n 0 as P = some z) : Ct G l 8 mX1_meet as P (fun r P1 => (r, P1) = z) := by
  cases n with
  | zero => cases h
  | succ n =>
    unfold f_X1_meet at h
    split at h
    · exact Ct.of hl (by decide +kernel) wc_X1_meet (Nat.le_of_ble_eq_true rfl) (t_X1_meet_0 hl (s_X1_meet hl _) h rfl)
    all_goals first | (cases h; done) | (rename_i q9 _; exact absurd q9 (by decide)) | (rename_i q9; exact absurd q9 (by decide)) | contradiction
/-! QuakeNet$Walks.walk(II[I)V -/
def b_X8_walk_0 (n : Nat) (rec : Nat → List Value → xH → xO) (a0 : Nat) (a1 : Int32) (a2 : Int32) (a3 : Nat) (P : xH) : xO :=
  rec 3 [.ref a0, .int a1, .int a2, .ref a3, .int 0] P
def b_X8_walk_3 (n : Nat) (rec : Nat → List Value → xH → xO) (a0 : Nat) (a1 : Int32) (a2 : Int32) (a3 : Nat) (a4 : Int32) (P : xH) : xO :=
  (rA P a0 8 3).bind fun v1 =>
  (aI P v1 a1).bind fun v3 =>
  if v3 ≤ a4 then
    some (.inl none, P)
  else
    (rA P a0 8 1).bind fun v5 =>
    (aA P v5 a1).bind fun v7 =>
    (aI P v7 a4).bind fun v9 =>
    if ¬ v9 = a2 then
      rec 3 [.ref a0, .int a1, .int a2, .ref a3, .int ((a4 + 1))] P
    else
      (rA P a0 8 0).bind fun v11 =>
      (aA P v11 a1).bind fun v13 =>
      (aI P v13 a4).bind fun v15 =>
      (aL P a3).bind fun v17 =>
      if v17 ≤ v15 then
        rec 3 [.ref a0, .int a1, .int a2, .ref a3, .int ((a4 + 1))] P
      else
        (rA P a0 8 0).bind fun v19 =>
        (aA P v19 a1).bind fun v21 =>
        (aI P v21 a4).bind fun v23 =>
        (rA P a0 8 2).bind fun v25 =>
        (aA P v25 a1).bind fun v27 =>
        (aI P v27 a4).bind fun v29 =>
        (sI P a3 v23 v29).bind fun P31 =>
        rec 3 [.ref a0, .int a1, .int a2, .ref a3, .int ((a4 + 1))] P31
def lay_X8_walk : Nat → List Value → Option (xL × List Value)
  | 0, [a0, a1, a2, a3] => some ([some a0, some a1, some a2, some a3, none], [])
  | 3, [a0, a1, a2, a3, a4] => some ([some a0, some a1, some a2, some a3, some a4], [])
  | _, _ => none
def f_X8_walk : Nat → Nat → List Value → xH → xO
  | 0 => fun _ _ _ => none
  | n + 1 => fun pc env P => match pc, env with
    | 0, [.ref a0, .int a1, .int a2, .ref a3] => b_X8_walk_0 n (f_X8_walk n) a0 a1 a2 a3 P
    | 3, [.ref a0, .int a1, .int a2, .ref a3, .int a4] => b_X8_walk_3 n (f_X8_walk n) a0 a1 a2 a3 a4 P
    | _, _ => none
set_option maxHeartbeats 2000000 in
set_option maxRecDepth 20000 in
theorem t_X8_walk_0 {G : xG} {l : Launch} (hl : l.stackTraces = false) {n : Nat} {rec : Nat → List Value → xH → xO} (hrec : ∀ pc env P z, rec pc env P = some z → ∀ L st, lay_X8_walk pc env = some (L, st) → ∀ Q : xR → xH → Prop, Q z.1 z.2 → Wp G l 3 mX8_walk pc L st P Q) {a0 a1 a2 a3} {P : xH} {z : xR × xH} (h : b_X8_walk_0 n rec a0 a1 a2 a3 P = some z) {Q : xR → xH → Prop} (hQ : Q z.1 z.2) : Wp G l 3 mX8_walk 0 [some (.ref a0), some (.int a1), some (.int a2), some (.ref a3), none] [] P Q := by
  unfold b_X8_walk_0 at h
  refine x_iconst 0 dX8_walk_0 (by decide) ?_
  refine x_istore dX8_walk_1 (Nat.le_of_ble_eq_true rfl) ?_
  exact Wp.mask [true, true, true, true, true] (hrec 3 _ _ _ h _ _ rfl _ hQ)
set_option maxHeartbeats 2000000 in
set_option maxRecDepth 20000 in
theorem t_X8_walk_3 {G : xG} {l : Launch} (hl : l.stackTraces = false) {n : Nat} {rec : Nat → List Value → xH → xO} (hrec : ∀ pc env P z, rec pc env P = some z → ∀ L st, lay_X8_walk pc env = some (L, st) → ∀ Q : xR → xH → Prop, Q z.1 z.2 → Wp G l 3 mX8_walk pc L st P Q) {a0 a1 a2 a3 a4} {P : xH} {z : xR × xH} (h : b_X8_walk_3 n rec a0 a1 a2 a3 a4 P = some z) {Q : xR → xH → Prop} (hQ : Q z.1 z.2) : Wp G l 3 mX8_walk 3 [some (.ref a0), some (.int a1), some (.int a2), some (.ref a3), some (.int a4)] [] P Q := by
  unfold b_X8_walk_3 at h
  refine x_iload dX8_walk_3 rfl ?_
  refine x_aload_nr dX8_walk_5 rfl ?_
  obtain ⟨v1, e2, h⟩ := Option.bind_eq_some_iff.mp h
  refine k_rA e2 dX8_walk_6 f_X8_22 ?_
  refine x_iload_n dX8_walk_9 rfl ?_
  obtain ⟨v3, e4, h⟩ := Option.bind_eq_some_iff.mp h
  refine k_aI e4 dX8_walk_10 ?_
  refine x_icmp_ge 67 dX8_walk_11 (by decide) (fun q35 => ?_) (fun q35 => ?_)
  · rw [if_pos q35] at h
    cases h
    exact x_ret rfl dX8_walk_67 hQ
  · rw [if_neg q35] at h
    refine x_aload_nr dX8_walk_14 rfl ?_
    obtain ⟨v5, e6, h⟩ := Option.bind_eq_some_iff.mp h
    refine k_rA e6 dX8_walk_15 f_X8_16 ?_
    refine x_iload_n dX8_walk_18 rfl ?_
    obtain ⟨v7, e8, h⟩ := Option.bind_eq_some_iff.mp h
    refine k_aA e8 dX8_walk_19 ?_
    refine x_iload dX8_walk_20 rfl ?_
    obtain ⟨v9, e10, h⟩ := Option.bind_eq_some_iff.mp h
    refine k_aI e10 dX8_walk_22 ?_
    refine x_iload_n dX8_walk_23 rfl ?_
    refine x_icmp_ne 61 dX8_walk_24 (by decide) (fun q34 => ?_) (fun q34 => ?_)
    · rw [if_pos q34] at h
      refine x_iinc (a4 + 1) dX8_walk_61 rfl (by rfl) ?_
      refine x_goto 3 dX8_walk_64 (by decide) ?_
      exact Wp.mask [true, true, true, true, true] (hrec 3 _ _ _ h _ _ rfl _ hQ)
    · rw [if_neg (fun z9 => z9 q34)] at h
      refine x_aload_nr dX8_walk_27 rfl ?_
      obtain ⟨v11, e12, h⟩ := Option.bind_eq_some_iff.mp h
      refine k_rA e12 dX8_walk_28 f_X8_13 ?_
      refine x_iload_n dX8_walk_31 rfl ?_
      obtain ⟨v13, e14, h⟩ := Option.bind_eq_some_iff.mp h
      refine k_aA e14 dX8_walk_32 ?_
      refine x_iload dX8_walk_33 rfl ?_
      obtain ⟨v15, e16, h⟩ := Option.bind_eq_some_iff.mp h
      refine k_aI e16 dX8_walk_35 ?_
      refine x_aload_nr dX8_walk_36 rfl ?_
      obtain ⟨v17, e18, h⟩ := Option.bind_eq_some_iff.mp h
      refine k_aL e18 dX8_walk_37 ?_
      refine x_icmp_ge 61 dX8_walk_38 (by decide) (fun q33 => ?_) (fun q33 => ?_)
      · rw [if_pos q33] at h
        refine x_iinc (a4 + 1) dX8_walk_61 rfl (by rfl) ?_
        refine x_goto 3 dX8_walk_64 (by decide) ?_
        exact Wp.mask [true, true, true, true, true] (hrec 3 _ _ _ h _ _ rfl _ hQ)
      · rw [if_neg q33] at h
        refine x_aload_nr dX8_walk_41 rfl ?_
        refine x_aload_nr dX8_walk_42 rfl ?_
        obtain ⟨v19, e20, h⟩ := Option.bind_eq_some_iff.mp h
        refine k_rA e20 dX8_walk_43 f_X8_13 ?_
        refine x_iload_n dX8_walk_46 rfl ?_
        obtain ⟨v21, e22, h⟩ := Option.bind_eq_some_iff.mp h
        refine k_aA e22 dX8_walk_47 ?_
        refine x_iload dX8_walk_48 rfl ?_
        obtain ⟨v23, e24, h⟩ := Option.bind_eq_some_iff.mp h
        refine k_aI e24 dX8_walk_50 ?_
        refine x_aload_nr dX8_walk_51 rfl ?_
        obtain ⟨v25, e26, h⟩ := Option.bind_eq_some_iff.mp h
        refine k_rA e26 dX8_walk_52 f_X8_19 ?_
        refine x_iload_n dX8_walk_55 rfl ?_
        obtain ⟨v27, e28, h⟩ := Option.bind_eq_some_iff.mp h
        refine k_aA e28 dX8_walk_56 ?_
        refine x_iload dX8_walk_57 rfl ?_
        obtain ⟨v29, e30, h⟩ := Option.bind_eq_some_iff.mp h
        refine k_aI e30 dX8_walk_59 ?_
        obtain ⟨P31, e32, h⟩ := Option.bind_eq_some_iff.mp h
        refine k_sI e32 dX8_walk_60 ?_
        refine x_iinc (a4 + 1) dX8_walk_61 rfl (by rfl) ?_
        refine x_goto 3 dX8_walk_64 (by decide) ?_
        exact Wp.mask [true, true, true, true, true] (hrec 3 _ _ _ h _ _ rfl _ hQ)
theorem s_X8_walk {G : xG} {l : Launch} (hl : l.stackTraces = false) : ∀ n pc env P z, f_X8_walk n pc env P = some z → ∀ L st, lay_X8_walk pc env = some (L, st) → ∀ Q : xR → xH → Prop, Q z.1 z.2 → Wp G l 3 mX8_walk pc L st P Q := by
  intro n
  induction n with
  | zero => intro pc env P z h; cases h
  | succ n ih =>
    intro pc env P z h L st hlay Q hQ
    unfold f_X8_walk at h
    split at h
    · cases hlay
      exact t_X8_walk_0 hl ih h hQ
    · cases hlay
      exact t_X8_walk_3 hl ih h hQ
    · cases h
theorem c_X8_walk {G : xG} {l : Launch} (hl : l.stackTraces = false) {n : Nat} {as : List Value} {P : xH} {z : xR × xH} (h : f_X8_walk n 0 as P = some z) : Ct G l 3 mX8_walk as P (fun r P1 => (r, P1) = z) := by
  cases n with
  | zero => cases h
  | succ n =>
    unfold f_X8_walk at h
    split at h
    · exact Ct.of hl (by decide +kernel) wc_X8_walk (Nat.le_of_ble_eq_true rfl) (t_X8_walk_0 hl (s_X8_walk hl _) h rfl)
    all_goals first | (cases h; done) | (rename_i q9 _; exact absurd q9 (by decide)) | (rename_i q9; exact absurd q9 (by decide)) | contradiction
/-! QuakeNet$Net.step(LQuakeNet$Walks;I)V -/
def b_X1_step_0 (n : Nat) (rec : Nat → List Value → xH → xO) (a0 : Nat) (a1 : Nat) (a2 : Int32) (P : xH) : xO :=
  (rI P a0 1 2).bind fun v1 =>
  (wV P a0 1 2 (.int ((v1 + 1)))).bind fun P3 =>
  (rI P3 a0 1 2).bind fun v5 =>
  (rA P3 a0 1 5).bind fun v7 =>
  (aA P3 v7 0).bind fun v9 =>
  (kO P3 a1 8).bind fun _ =>
  (f_X8_walk n 0 [.ref a1, .int a2, .int v5, .ref v9] P3).bind fun r12 => xU r12 fun P11 =>
  (kO P11 a0 1).bind fun _ =>
  (f_X1_forgetDead n 0 [.ref a0] P11).bind fun r16 => xU r16 fun P15 =>
  rec 31 [.ref a0, .ref a1, .int a2, .int 0] P15
def b_X1_step_31 (n : Nat) (rec : Nat → List Value → xH → xO) (a0 : Nat) (a1 : Nat) (a2 : Int32) (a3 : Int32) (P : xH) : xO :=
  (rI P a0 1 3).bind fun v1 =>
  if v1 ≤ a3 then
    some (.inl none, P)
  else
    rec 44 [.ref a0, .ref a1, .int a2, .int a3, .int ((a3 + 1))] P
def b_X1_step_44 (n : Nat) (rec : Nat → List Value → xH → xO) (a0 : Nat) (a1 : Nat) (a2 : Int32) (a3 : Int32) (a4 : Int32) (P : xH) : xO :=
  (rI P a0 1 3).bind fun v1 =>
  if v1 ≤ a4 then
    rec 31 [.ref a0, .ref a1, .int a2, .int ((a3 + 1))] P
  else
    (rA P a0 1 5).bind fun v3 =>
    (aA P v3 0).bind fun v5 =>
    (aI P v5 a3).bind fun v7 =>
    (rA P a0 1 5).bind fun v9 =>
    (aA P v9 0).bind fun v11 =>
    (aI P v11 a4).bind fun v13 =>
    if ¬ v7 = v13 then
      rec 44 [.ref a0, .ref a1, .int a2, .int a3, .int ((a4 + 1))] P
    else
      (kO P a0 1).bind fun _ =>
      (f_X1_meet n 0 [.ref a0, .int a3, .int a4] P).bind fun r16 => xU r16 fun P15 =>
      rec 44 [.ref a0, .ref a1, .int a2, .int a3, .int ((a4 + 1))] P15
def lay_X1_step : Nat → List Value → Option (xL × List Value)
  | 0, [a0, a1, a2] => some ([some a0, some a1, some a2, none, none], [])
  | 31, [a0, a1, a2, a3] => some ([some a0, some a1, some a2, some a3, none], [])
  | 44, [a0, a1, a2, a3, a4] => some ([some a0, some a1, some a2, some a3, some a4], [])
  | _, _ => none
def f_X1_step : Nat → Nat → List Value → xH → xO
  | 0 => fun _ _ _ => none
  | n + 1 => fun pc env P => match pc, env with
    | 0, [.ref a0, .ref a1, .int a2] => b_X1_step_0 n (f_X1_step n) a0 a1 a2 P
    | 31, [.ref a0, .ref a1, .int a2, .int a3] => b_X1_step_31 n (f_X1_step n) a0 a1 a2 a3 P
    | 44, [.ref a0, .ref a1, .int a2, .int a3, .int a4] => b_X1_step_44 n (f_X1_step n) a0 a1 a2 a3 a4 P
    | _, _ => none
set_option maxHeartbeats 2000000 in
set_option maxRecDepth 20000 in
theorem t_X1_step_0 {G : xG} {l : Launch} (hl : l.stackTraces = false) {n : Nat} {rec : Nat → List Value → xH → xO} (hrec : ∀ pc env P z, rec pc env P = some z → ∀ L st, lay_X1_step pc env = some (L, st) → ∀ Q : xR → xH → Prop, Q z.1 z.2 → Wp G l 9 mX1_step pc L st P Q) {a0 a1 a2} {P : xH} {z : xR × xH} (h : b_X1_step_0 n rec a0 a1 a2 P = some z) {Q : xR → xH → Prop} (hQ : Q z.1 z.2) : Wp G l 9 mX1_step 0 [some (.ref a0), some (.ref a1), some (.int a2), none, none] [] P Q := by
  unfold b_X1_step_0 at h
  refine x_aload_nr dX1_step_0 rfl ?_
  refine x_dup dX1_step_1 rfl ?_
  obtain ⟨v1, e2, h⟩ := Option.bind_eq_some_iff.mp h
  refine k_rI e2 dX1_step_2 f_X1_56 ?_
  refine x_iconst 1 dX1_step_5 (by decide) ?_
  refine x_iadd dX1_step_6 ?_
  obtain ⟨P3, e4, h⟩ := Option.bind_eq_some_iff.mp h
  refine k_wI e4 dX1_step_7 f_X1_56 (Or.inl (by decide)) rfl ?_
  refine x_aload_nr dX1_step_10 rfl ?_
  refine x_iload_n dX1_step_11 rfl ?_
  refine x_aload_nr dX1_step_12 rfl ?_
  obtain ⟨v5, e6, h⟩ := Option.bind_eq_some_iff.mp h
  refine k_rI e6 dX1_step_13 f_X1_56 ?_
  refine x_aload_nr dX1_step_16 rfl ?_
  obtain ⟨v7, e8, h⟩ := Option.bind_eq_some_iff.mp h
  refine k_rA e8 dX1_step_17 f_X1_13 ?_
  refine x_iconst 0 dX1_step_20 (by decide) ?_
  obtain ⟨v9, e10, h⟩ := Option.bind_eq_some_iff.mp h
  refine k_aA e10 dX1_step_21 ?_
  obtain ⟨_, e14, h⟩ := Option.bind_eq_some_iff.mp h
  obtain ⟨fse14, e14⟩ := kO_ok e14
  obtain ⟨r12, e13, h⟩ := Option.bind_eq_some_iff.mp h
  replace h := xU_ok h
  obtain ⟨P11, rfl, h⟩ := h
  refine x_callV (c_X8_walk hl e13) dX1_step_22 cw_X8_walk wl_X1_116 wi_X8_walk wse_X8_walk rfl e14 (by decide) rfl (by omega) (by decide) rfl (Nat.le_of_ble_eq_true rfl) rfl (fun v9 P9 hq9 => ?_) (fun i9 P9 hq9 => by cases hq9)
  cases hq9
  refine x_aload_nr dX1_step_25 rfl ?_
  obtain ⟨_, e18, h⟩ := Option.bind_eq_some_iff.mp h
  obtain ⟨fse18, e18⟩ := kO_ok e18
  obtain ⟨r16, e17, h⟩ := Option.bind_eq_some_iff.mp h
  replace h := xU_ok h
  obtain ⟨P15, rfl, h⟩ := h
  refine x_callV (c_X1_forgetDead hl e17) dX1_step_26 cw_X1_forgetDead wl_X1_122 wi_X1_forgetDead wse_X1_forgetDead rfl e18 (by decide) rfl (by omega) (by decide) rfl (Nat.le_of_ble_eq_true rfl) rfl (fun v9 P9 hq9 => ?_) (fun i9 P9 hq9 => by cases hq9)
  cases hq9
  refine x_iconst 0 dX1_step_29 (by decide) ?_
  refine x_istore_n dX1_step_30 (Nat.le_of_ble_eq_true rfl) ?_
  exact Wp.mask [true, true, true, true, false] (hrec 31 _ _ _ h _ _ rfl _ hQ)
set_option maxHeartbeats 2000000 in
set_option maxRecDepth 20000 in
theorem t_X1_step_31 {G : xG} {l : Launch} (hl : l.stackTraces = false) {n : Nat} {rec : Nat → List Value → xH → xO} (hrec : ∀ pc env P z, rec pc env P = some z → ∀ L st, lay_X1_step pc env = some (L, st) → ∀ Q : xR → xH → Prop, Q z.1 z.2 → Wp G l 9 mX1_step pc L st P Q) {a0 a1 a2 a3} {P : xH} {z : xR × xH} (h : b_X1_step_31 n rec a0 a1 a2 a3 P = some z) {Q : xR → xH → Prop} (hQ : Q z.1 z.2) : Wp G l 9 mX1_step 31 [some (.ref a0), some (.ref a1), some (.int a2), some (.int a3), none] [] P Q := by
  unfold b_X1_step_31 at h
  refine x_iload_n dX1_step_31 rfl ?_
  refine x_aload_nr dX1_step_32 rfl ?_
  obtain ⟨v1, e2, h⟩ := Option.bind_eq_some_iff.mp h
  refine k_rI e2 dX1_step_33 f_X1_60 ?_
  refine x_icmp_ge 92 dX1_step_36 (by decide) (fun q3 => ?_) (fun q3 => ?_)
  · rw [if_pos q3] at h
    cases h
    exact x_ret rfl dX1_step_92 hQ
  · rw [if_neg q3] at h
    refine x_iload_n dX1_step_39 rfl ?_
    refine x_iconst 1 dX1_step_40 (by decide) ?_
    refine x_iadd dX1_step_41 ?_
    refine x_istore dX1_step_42 (Nat.le_of_ble_eq_true rfl) ?_
    exact Wp.mask [true, true, true, true, true] (hrec 44 _ _ _ h _ _ rfl _ hQ)
set_option maxHeartbeats 2000000 in
set_option maxRecDepth 20000 in
theorem t_X1_step_44 {G : xG} {l : Launch} (hl : l.stackTraces = false) {n : Nat} {rec : Nat → List Value → xH → xO} (hrec : ∀ pc env P z, rec pc env P = some z → ∀ L st, lay_X1_step pc env = some (L, st) → ∀ Q : xR → xH → Prop, Q z.1 z.2 → Wp G l 9 mX1_step pc L st P Q) {a0 a1 a2 a3 a4} {P : xH} {z : xR × xH} (h : b_X1_step_44 n rec a0 a1 a2 a3 a4 P = some z) {Q : xR → xH → Prop} (hQ : Q z.1 z.2) : Wp G l 9 mX1_step 44 [some (.ref a0), some (.ref a1), some (.int a2), some (.int a3), some (.int a4)] [] P Q := by
  unfold b_X1_step_44 at h
  refine x_iload dX1_step_44 rfl ?_
  refine x_aload_nr dX1_step_46 rfl ?_
  obtain ⟨v1, e2, h⟩ := Option.bind_eq_some_iff.mp h
  refine k_rI e2 dX1_step_47 f_X1_60 ?_
  refine x_icmp_ge 86 dX1_step_50 (by decide) (fun q20 => ?_) (fun q20 => ?_)
  · rw [if_pos q20] at h
    refine x_iinc (a3 + 1) dX1_step_86 rfl (by rfl) ?_
    refine x_goto 31 dX1_step_89 (by decide) ?_
    exact Wp.mask [true, true, true, true, false] (hrec 31 _ _ _ h _ _ rfl _ hQ)
  · rw [if_neg q20] at h
    refine x_aload_nr dX1_step_53 rfl ?_
    obtain ⟨v3, e4, h⟩ := Option.bind_eq_some_iff.mp h
    refine k_rA e4 dX1_step_54 f_X1_13 ?_
    refine x_iconst 0 dX1_step_57 (by decide) ?_
    obtain ⟨v5, e6, h⟩ := Option.bind_eq_some_iff.mp h
    refine k_aA e6 dX1_step_58 ?_
    refine x_iload_n dX1_step_59 rfl ?_
    obtain ⟨v7, e8, h⟩ := Option.bind_eq_some_iff.mp h
    refine k_aI e8 dX1_step_60 ?_
    refine x_aload_nr dX1_step_61 rfl ?_
    obtain ⟨v9, e10, h⟩ := Option.bind_eq_some_iff.mp h
    refine k_rA e10 dX1_step_62 f_X1_13 ?_
    refine x_iconst 0 dX1_step_65 (by decide) ?_
    obtain ⟨v11, e12, h⟩ := Option.bind_eq_some_iff.mp h
    refine k_aA e12 dX1_step_66 ?_
    refine x_iload dX1_step_67 rfl ?_
    obtain ⟨v13, e14, h⟩ := Option.bind_eq_some_iff.mp h
    refine k_aI e14 dX1_step_69 ?_
    refine x_icmp_ne 80 dX1_step_70 (by decide) (fun q19 => ?_) (fun q19 => ?_)
    · rw [if_pos q19] at h
      refine x_iinc (a4 + 1) dX1_step_80 rfl (by rfl) ?_
      refine x_goto 44 dX1_step_83 (by decide) ?_
      exact Wp.mask [true, true, true, true, true] (hrec 44 _ _ _ h _ _ rfl _ hQ)
    · rw [if_neg (fun z9 => z9 q19)] at h
      refine x_aload_nr dX1_step_73 rfl ?_
      refine x_iload_n dX1_step_74 rfl ?_
      refine x_iload dX1_step_75 rfl ?_
      obtain ⟨_, e18, h⟩ := Option.bind_eq_some_iff.mp h
      obtain ⟨fse18, e18⟩ := kO_ok e18
      obtain ⟨r16, e17, h⟩ := Option.bind_eq_some_iff.mp h
      replace h := xU_ok h
      obtain ⟨P15, rfl, h⟩ := h
      refine x_callV (c_X1_meet hl e17) dX1_step_77 cw_X1_meet wl_X1_125 wi_X1_meet wse_X1_meet rfl e18 (by decide) rfl (by omega) (by decide) rfl (Nat.le_of_ble_eq_true rfl) rfl (fun v9 P9 hq9 => ?_) (fun i9 P9 hq9 => by cases hq9)
      cases hq9
      refine x_iinc (a4 + 1) dX1_step_80 rfl (by rfl) ?_
      refine x_goto 44 dX1_step_83 (by decide) ?_
      exact Wp.mask [true, true, true, true, true] (hrec 44 _ _ _ h _ _ rfl _ hQ)
theorem s_X1_step {G : xG} {l : Launch} (hl : l.stackTraces = false) : ∀ n pc env P z, f_X1_step n pc env P = some z → ∀ L st, lay_X1_step pc env = some (L, st) → ∀ Q : xR → xH → Prop, Q z.1 z.2 → Wp G l 9 mX1_step pc L st P Q := by
  intro n
  induction n with
  | zero => intro pc env P z h; cases h
  | succ n ih =>
    intro pc env P z h L st hlay Q hQ
    unfold f_X1_step at h
    split at h
    · cases hlay
      exact t_X1_step_0 hl ih h hQ
    · cases hlay
      exact t_X1_step_31 hl ih h hQ
    · cases hlay
      exact t_X1_step_44 hl ih h hQ
    · cases h
theorem c_X1_step {G : xG} {l : Launch} (hl : l.stackTraces = false) {n : Nat} {as : List Value} {P : xH} {z : xR × xH} (h : f_X1_step n 0 as P = some z) : Ct G l 9 mX1_step as P (fun r P1 => (r, P1) = z) := by
  cases n with
  | zero => cases h
  | succ n =>
    unfold f_X1_step at h
    split at h
    · exact Ct.of hl (by decide +kernel) wc_X1_step (Nat.le_of_ble_eq_true rfl) (t_X1_step_0 hl (s_X1_step hl _) h rfl)
    all_goals first | (cases h; done) | (rename_i q9 _; exact absurd q9 (by decide)) | (rename_i q9; exact absurd q9 (by decide)) | contradiction
