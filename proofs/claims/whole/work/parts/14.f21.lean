/-! QuakeNetModel.parted()V -/
def b_X11_parted_0 (n : Nat) (rec : Nat → List Value → xH → xO) (a0 : Nat) (P : xH) : xO :=
  (wV P a0 11 25 (.int ((-1)))).bind fun P1 =>
  (kO P1 a0 11).bind fun _ =>
  (f_X11_parts n 0 [.ref a0, .int 0, .int 0, .int 0] P1).bind fun r4 => xU r4 fun P3 =>
  some (.inl none, P3)
def lay_X11_parted : Nat → List Value → Option (xL × List Value)
  | 0, [a0] => some ([some a0], [])
  | _, _ => none
def f_X11_parted : Nat → Nat → List Value → xH → xO
  | 0 => fun _ _ _ => none
  | n + 1 => fun pc env P => match pc, env with
    | 0, [.ref a0] => b_X11_parted_0 n (f_X11_parted n) a0 P
    | _, _ => none
set_option maxHeartbeats 2000000 in
set_option maxRecDepth 20000 in
theorem t_X11_parted_0 {G : xG} {l : Launch} (hl : l.stackTraces = false) {n : Nat} {rec : Nat → List Value → xH → xO} (hrec : ∀ pc env P z, rec pc env P = some z → ∀ L st, lay_X11_parted pc env = some (L, st) → ∀ Q : xR → xH → Prop, Q z.1 z.2 → Wp G l 39 mX11_parted pc L st P Q) {a0} {P : xH} {z : xR × xH} (h : b_X11_parted_0 n rec a0 P = some z) {Q : xR → xH → Prop} (hQ : Q z.1 z.2) : Wp G l 39 mX11_parted 0 [some (.ref a0)] [] P Q := by
  unfold b_X11_parted_0 at h
  refine x_aload_nr dX11_parted_0 rfl ?_
  refine x_iconst (-1) dX11_parted_1 (by decide) ?_
  obtain ⟨P1, e2, h⟩ := Option.bind_eq_some_iff.mp h
  refine k_wI e2 dX11_parted_2 f_X11_354 (Or.inl (by decide)) rfl ?_
  refine x_aload_nr dX11_parted_5 rfl ?_
  refine x_iconst 0 dX11_parted_6 (by decide) ?_
  refine x_iconst 0 dX11_parted_7 (by decide) ?_
  refine x_iconst 0 dX11_parted_8 (by decide) ?_
  obtain ⟨_, e6, h⟩ := Option.bind_eq_some_iff.mp h
  obtain ⟨fse6, e6⟩ := kO_ok e6
  obtain ⟨r4, e5, h⟩ := Option.bind_eq_some_iff.mp h
  replace h := xU_ok h
  obtain ⟨P3, rfl, h⟩ := h
  refine x_callV (c_X11_parts hl e5) dX11_parted_9 cw_X11_parts wl_X11_363 wi_X11_parts wse_X11_parts rfl e6 (by decide) rfl (by omega) (by decide) rfl (Nat.le_of_ble_eq_true rfl) rfl (fun v9 P9 hq9 => ?_) (fun i9 P9 hq9 => by cases hq9)
  cases hq9
  cases h
  exact x_ret rfl dX11_parted_12 hQ
theorem s_X11_parted {G : xG} {l : Launch} (hl : l.stackTraces = false) : ∀ n pc env P z, f_X11_parted n pc env P = some z → ∀ L st, lay_X11_parted pc env = some (L, st) → ∀ Q : xR → xH → Prop, Q z.1 z.2 → Wp G l 39 mX11_parted pc L st P Q := by
  intro n
  induction n with
  | zero => intro pc env P z h; cases h
  | succ n ih =>
    intro pc env P z h L st hlay Q hQ
    unfold f_X11_parted at h
    split at h
    · cases hlay
      exact t_X11_parted_0 hl ih h hQ
    · cases h
theorem c_X11_parted {G : xG} {l : Launch} (hl : l.stackTraces = false) {n : Nat} {as : List Value} {P : xH} {z : xR × xH} (h : f_X11_parted n 0 as P = some z) : Ct G l 39 mX11_parted as P (fun r P1 => (r, P1) = z) := by
  cases n with
  | zero => cases h
  | succ n =>
    unfold f_X11_parted at h
    split at h
    · exact Ct.of hl (by decide +kernel) wc_X11_parted (Nat.le_of_ble_eq_true rfl) (t_X11_parted_0 hl (s_X11_parted hl _) h rfl)
    all_goals first | (cases h; done) | (rename_i q9 _; exact absurd q9 (by decide)) | (rename_i q9; exact absurd q9 (by decide)) | contradiction
/-! QuakeNetModel.heaps(I)I -/
def b_X11_heaps_0 (n : Nat) (rec : Nat → List Value → xH → xO) (a0 : Nat) (a1 : Int32) (P : xH) : xO :=
  (wV P a0 11 0 (.int 0)).bind fun P1 =>
  (f_X11_in n 0 [.int a1, .int 0, .int 1] P1).bind fun r4 => xI r4 fun v6 P3 =>
  if ¬ v6 = 0 then
    rec 20 [.ref a0, .int a1, .ref a0, .int 0] P3
  else
    rec 20 [.ref a0, .int a1, .ref a0, .int 1] P3
def b_X11_heaps_20 (n : Nat) (rec : Nat → List Value → xH → xO) (a0 : Nat) (a1 : Int32) (s0 : Nat) (s1 : Int32) (P : xH) : xO :=
  (kO P s0 11).bind fun _ =>
  (f_X11_throwsIf n 0 [.ref s0, .int s1, .int 1] P).bind fun r2 => xI r2 fun v4 P1 =>
  if v4 = 0 then
    (kO P1 a0 11).bind fun _ =>
    (f_X11_parted n 0 [.ref a0] P1).bind fun r7 => xU r7 fun P6 =>
    if ¬ a1 = 0 then
      (rI P6 a0 11 26).bind fun v10 =>
      some (.inl (some (.int v10)), P6)
    else
      (rI P6 a0 11 25).bind fun v12 =>
      some (.inl (some (.int v12)), P6)
  else
    some (.inl (some (.int 0)), P1)
def lay_X11_heaps : Nat → List Value → Option (xL × List Value)
  | 0, [a0, a1] => some ([some a0, some a1], [])
  | 20, [a0, a1, s0, s1] => some ([some a0, some a1], [s1, s0])
  | _, _ => none
def f_X11_heaps : Nat → Nat → List Value → xH → xO
  | 0 => fun _ _ _ => none
  | n + 1 => fun pc env P => match pc, env with
    | 0, [.ref a0, .int a1] => b_X11_heaps_0 n (f_X11_heaps n) a0 a1 P
    | 20, [.ref a0, .int a1, .ref s0, .int s1] => b_X11_heaps_20 n (f_X11_heaps n) a0 a1 s0 s1 P
    | _, _ => none
set_option maxHeartbeats 2000000 in
set_option maxRecDepth 20000 in
theorem t_X11_heaps_0 {G : xG} {l : Launch} (hl : l.stackTraces = false) {n : Nat} {rec : Nat → List Value → xH → xO} (hrec : ∀ pc env P z, rec pc env P = some z → ∀ L st, lay_X11_heaps pc env = some (L, st) → ∀ Q : xR → xH → Prop, Q z.1 z.2 → Wp G l 40 mX11_heaps pc L st P Q) {a0 a1} {P : xH} {z : xR × xH} (h : b_X11_heaps_0 n rec a0 a1 P = some z) {Q : xR → xH → Prop} (hQ : Q z.1 z.2) : Wp G l 40 mX11_heaps 0 [some (.ref a0), some (.int a1)] [] P Q := by
  unfold b_X11_heaps_0 at h
  refine x_aload_nr dX11_heaps_0 rfl ?_
  refine x_iconst 0 dX11_heaps_1 (by decide) ?_
  obtain ⟨P1, e2, h⟩ := Option.bind_eq_some_iff.mp h
  refine k_wI e2 dX11_heaps_2 f_X11_3 (Or.inl (by decide)) rfl ?_
  refine x_aload_nr dX11_heaps_5 rfl ?_
  refine x_iload_n dX11_heaps_6 rfl ?_
  refine x_iconst 0 dX11_heaps_7 (by decide) ?_
  refine x_iconst 1 dX11_heaps_8 (by decide) ?_
  obtain ⟨r4, e5, h⟩ := Option.bind_eq_some_iff.mp h
  replace h := xI_ok h
  obtain ⟨v6, P3, rfl, h⟩ := h
  refine x_callS (c_X11_in hl e5) dX11_heaps_9 cw_X11_in wl_X11_68 ws_X11_in rfl (by omega) (by decide) rfl (Nat.le_of_ble_eq_true rfl) rfl (fun v9 P9 hq9 => ?_) (fun i9 P9 hq9 => by cases hq9)
  cases hq9
  refine x_if_ne 19 dX11_heaps_12 (by decide) (fun q7 => ?_) (fun q7 => ?_)
  · rw [if_pos q7] at h
    refine x_iconst 0 dX11_heaps_19 (by decide) ?_
    exact Wp.mask [true, true] (hrec 20 _ _ _ h _ _ rfl _ hQ)
  · rw [if_neg (fun z9 => z9 q7)] at h
    refine x_iconst 1 dX11_heaps_15 (by decide) ?_
    refine x_goto 20 dX11_heaps_16 (by decide) ?_
    exact Wp.mask [true, true] (hrec 20 _ _ _ h _ _ rfl _ hQ)
set_option maxHeartbeats 2000000 in
set_option maxRecDepth 20000 in
theorem t_X11_heaps_20 {G : xG} {l : Launch} (hl : l.stackTraces = false) {n : Nat} {rec : Nat → List Value → xH → xO} (hrec : ∀ pc env P z, rec pc env P = some z → ∀ L st, lay_X11_heaps pc env = some (L, st) → ∀ Q : xR → xH → Prop, Q z.1 z.2 → Wp G l 40 mX11_heaps pc L st P Q) {a0 a1 s0 s1} {P : xH} {z : xR × xH} (h : b_X11_heaps_20 n rec a0 a1 s0 s1 P = some z) {Q : xR → xH → Prop} (hQ : Q z.1 z.2) : Wp G l 40 mX11_heaps 20 [some (.ref a0), some (.int a1)] [.int s1, .ref s0] P Q := by
  unfold b_X11_heaps_20 at h
  refine x_iconst 1 dX11_heaps_20 (by decide) ?_
  obtain ⟨_, e5, h⟩ := Option.bind_eq_some_iff.mp h
  obtain ⟨fse5, e5⟩ := kO_ok e5
  obtain ⟨r2, e3, h⟩ := Option.bind_eq_some_iff.mp h
  replace h := xI_ok h
  obtain ⟨v4, P1, rfl, h⟩ := h
  refine x_callV (c_X11_throwsIf hl e3) dX11_heaps_21 cw_X11_throwsIf wl_X11_93 wi_X11_throwsIf wse_X11_throwsIf rfl e5 (by decide) rfl (by omega) (by decide) rfl (Nat.le_of_ble_eq_true rfl) rfl (fun v9 P9 hq9 => ?_) (fun i9 P9 hq9 => by cases hq9)
  cases hq9
  refine x_if_eq 29 dX11_heaps_24 (by decide) (fun q15 => ?_) (fun q15 => ?_)
  · rw [if_pos q15] at h
    refine x_aload_nr dX11_heaps_29 rfl ?_
    obtain ⟨_, e9, h⟩ := Option.bind_eq_some_iff.mp h
    obtain ⟨fse9, e9⟩ := kO_ok e9
    obtain ⟨r7, e8, h⟩ := Option.bind_eq_some_iff.mp h
    replace h := xU_ok h
    obtain ⟨P6, rfl, h⟩ := h
    refine x_callV (c_X11_parted hl e8) dX11_heaps_30 cw_X11_parted wl_X11_367 wi_X11_parted wse_X11_parted rfl e9 (by decide) rfl (by omega) (by decide) rfl (Nat.le_of_ble_eq_true rfl) rfl (fun v9 P9 hq9 => ?_) (fun i9 P9 hq9 => by cases hq9)
    cases hq9
    refine x_iload_n dX11_heaps_33 rfl ?_
    refine x_if_ne 44 dX11_heaps_34 (by decide) (fun q14 => ?_) (fun q14 => ?_)
    · rw [if_pos q14] at h
      refine x_aload_nr dX11_heaps_44 rfl ?_
      obtain ⟨v10, e11, h⟩ := Option.bind_eq_some_iff.mp h
      refine k_rI e11 dX11_heaps_45 f_X11_357 ?_
      cases h
      exact x_iret .int rfl rfl dX11_heaps_48 hQ
    · rw [if_neg (fun z9 => z9 q14)] at h
      refine x_aload_nr dX11_heaps_37 rfl ?_
      obtain ⟨v12, e13, h⟩ := Option.bind_eq_some_iff.mp h
      refine k_rI e13 dX11_heaps_38 f_X11_354 ?_
      refine x_goto 48 dX11_heaps_41 (by decide) ?_
      cases h
      exact x_iret .int rfl rfl dX11_heaps_48 hQ
  · rw [if_neg q15] at h
    refine x_iconst 0 dX11_heaps_27 (by decide) ?_
    cases h
    exact x_iret .int rfl rfl dX11_heaps_28 hQ
theorem s_X11_heaps {G : xG} {l : Launch} (hl : l.stackTraces = false) : ∀ n pc env P z, f_X11_heaps n pc env P = some z → ∀ L st, lay_X11_heaps pc env = some (L, st) → ∀ Q : xR → xH → Prop, Q z.1 z.2 → Wp G l 40 mX11_heaps pc L st P Q := by
  intro n
  induction n with
  | zero => intro pc env P z h; cases h
  | succ n ih =>
    intro pc env P z h L st hlay Q hQ
    unfold f_X11_heaps at h
    split at h
    · cases hlay
      exact t_X11_heaps_0 hl ih h hQ
    · cases hlay
      exact t_X11_heaps_20 hl ih h hQ
    · cases h
theorem c_X11_heaps {G : xG} {l : Launch} (hl : l.stackTraces = false) {n : Nat} {as : List Value} {P : xH} {z : xR × xH} (h : f_X11_heaps n 0 as P = some z) : Ct G l 40 mX11_heaps as P (fun r P1 => (r, P1) = z) := by
  cases n with
  | zero => cases h
  | succ n =>
    unfold f_X11_heaps at h
    split at h
    · exact Ct.of hl (by decide +kernel) wc_X11_heaps (Nat.le_of_ble_eq_true rfl) (t_X11_heaps_0 hl (s_X11_heaps hl _) h rfl)
    all_goals first | (cases h; done) | (rename_i q9 _; exact absurd q9 (by decide)) | (rename_i q9; exact absurd q9 (by decide)) | contradiction
/-! QuakeNetModel.heap(I)I -/
def b_X11_heap_0 (n : Nat) (rec : Nat → List Value → xH → xO) (a0 : Nat) (a1 : Int32) (P : xH) : xO :=
  (wV P a0 11 0 (.int 0)).bind fun P1 =>
  (rA P1 a0 11 3).bind fun v3 =>
  (aI P1 v3 8).bind fun v5 =>
  (f_X11_in n 0 [.int a1, .int 0, .int ((v5 - 1))] P1).bind fun r8 => xI r8 fun v10 P7 =>
  if ¬ v10 = 0 then
    rec 28 [.ref a0, .int a1, .ref a0, .int 0] P7
  else
    rec 28 [.ref a0, .int a1, .ref a0, .int 1] P7
def b_X11_heap_28 (n : Nat) (rec : Nat → List Value → xH → xO) (a0 : Nat) (a1 : Int32) (s0 : Nat) (s1 : Int32) (P : xH) : xO :=
  (kO P s0 11).bind fun _ =>
  (f_X11_throwsIf n 0 [.ref s0, .int s1, .int 1] P).bind fun r2 => xI r2 fun v4 P1 =>
  if v4 = 0 then
    (kO P1 a0 11).bind fun _ =>
    (f_X11_parted n 0 [.ref a0] P1).bind fun r7 => xU r7 fun P6 =>
    (rA P6 a0 11 24).bind fun v10 =>
    (aI P6 v10 a1).bind fun v12 =>
    some (.inl (some (.int v12)), P6)
  else
    some (.inl (some (.int 0)), P1)
def lay_X11_heap : Nat → List Value → Option (xL × List Value)
  | 0, [a0, a1] => some ([some a0, some a1], [])
  | 28, [a0, a1, s0, s1] => some ([some a0, some a1], [s1, s0])
  | _, _ => none
def f_X11_heap : Nat → Nat → List Value → xH → xO
  | 0 => fun _ _ _ => none
  | n + 1 => fun pc env P => match pc, env with
    | 0, [.ref a0, .int a1] => b_X11_heap_0 n (f_X11_heap n) a0 a1 P
    | 28, [.ref a0, .int a1, .ref s0, .int s1] => b_X11_heap_28 n (f_X11_heap n) a0 a1 s0 s1 P
    | _, _ => none
set_option maxHeartbeats 2000000 in
set_option maxRecDepth 20000 in
theorem t_X11_heap_0 {G : xG} {l : Launch} (hl : l.stackTraces = false) {n : Nat} {rec : Nat → List Value → xH → xO} (hrec : ∀ pc env P z, rec pc env P = some z → ∀ L st, lay_X11_heap pc env = some (L, st) → ∀ Q : xR → xH → Prop, Q z.1 z.2 → Wp G l 40 mX11_heap pc L st P Q) {a0 a1} {P : xH} {z : xR × xH} (h : b_X11_heap_0 n rec a0 a1 P = some z) {Q : xR → xH → Prop} (hQ : Q z.1 z.2) : Wp G l 40 mX11_heap 0 [some (.ref a0), some (.int a1)] [] P Q := by
  unfold b_X11_heap_0 at h
  refine x_aload_nr dX11_heap_0 rfl ?_
  refine x_iconst 0 dX11_heap_1 (by decide) ?_
  obtain ⟨P1, e2, h⟩ := Option.bind_eq_some_iff.mp h
  refine k_wI e2 dX11_heap_2 f_X11_3 (Or.inl (by decide)) rfl ?_
  refine x_aload_nr dX11_heap_5 rfl ?_
  refine x_iload_n dX11_heap_6 rfl ?_
  refine x_iconst 0 dX11_heap_7 (by decide) ?_
  refine x_aload_nr dX11_heap_8 rfl ?_
  obtain ⟨v3, e4, h⟩ := Option.bind_eq_some_iff.mp h
  refine k_rA e4 dX11_heap_9 f_X11_20 ?_
  refine x_bipush 8 dX11_heap_12 (by decide) ?_
  obtain ⟨v5, e6, h⟩ := Option.bind_eq_some_iff.mp h
  refine k_aI e6 dX11_heap_14 ?_
  refine x_iconst 1 dX11_heap_15 (by decide) ?_
  refine x_isub dX11_heap_16 ?_
  obtain ⟨r8, e9, h⟩ := Option.bind_eq_some_iff.mp h
  replace h := xI_ok h
  obtain ⟨v10, P7, rfl, h⟩ := h
  refine x_callS (c_X11_in hl e9) dX11_heap_17 cw_X11_in wl_X11_68 ws_X11_in rfl (by omega) (by decide) rfl (Nat.le_of_ble_eq_true rfl) rfl (fun v9 P9 hq9 => ?_) (fun i9 P9 hq9 => by cases hq9)
  cases hq9
  refine x_if_ne 27 dX11_heap_20 (by decide) (fun q11 => ?_) (fun q11 => ?_)
  · rw [if_pos q11] at h
    refine x_iconst 0 dX11_heap_27 (by decide) ?_
    exact Wp.mask [true, true] (hrec 28 _ _ _ h _ _ rfl _ hQ)
  · rw [if_neg (fun z9 => z9 q11)] at h
    refine x_iconst 1 dX11_heap_23 (by decide) ?_
    refine x_goto 28 dX11_heap_24 (by decide) ?_
    exact Wp.mask [true, true] (hrec 28 _ _ _ h _ _ rfl _ hQ)
set_option maxHeartbeats 2000000 in
set_option maxRecDepth 20000 in
theorem t_X11_heap_28 {G : xG} {l : Launch} (hl : l.stackTraces = false) {n : Nat} {rec : Nat → List Value → xH → xO} (hrec : ∀ pc env P z, rec pc env P = some z → ∀ L st, lay_X11_heap pc env = some (L, st) → ∀ Q : xR → xH → Prop, Q z.1 z.2 → Wp G l 40 mX11_heap pc L st P Q) {a0 a1 s0 s1} {P : xH} {z : xR × xH} (h : b_X11_heap_28 n rec a0 a1 s0 s1 P = some z) {Q : xR → xH → Prop} (hQ : Q z.1 z.2) : Wp G l 40 mX11_heap 28 [some (.ref a0), some (.int a1)] [.int s1, .ref s0] P Q := by
  unfold b_X11_heap_28 at h
  refine x_iconst 1 dX11_heap_28 (by decide) ?_
  obtain ⟨_, e5, h⟩ := Option.bind_eq_some_iff.mp h
  obtain ⟨fse5, e5⟩ := kO_ok e5
  obtain ⟨r2, e3, h⟩ := Option.bind_eq_some_iff.mp h
  replace h := xI_ok h
  obtain ⟨v4, P1, rfl, h⟩ := h
  refine x_callV (c_X11_throwsIf hl e3) dX11_heap_29 cw_X11_throwsIf wl_X11_93 wi_X11_throwsIf wse_X11_throwsIf rfl e5 (by decide) rfl (by omega) (by decide) rfl (Nat.le_of_ble_eq_true rfl) rfl (fun v9 P9 hq9 => ?_) (fun i9 P9 hq9 => by cases hq9)
  cases hq9
  refine x_if_eq 37 dX11_heap_32 (by decide) (fun q14 => ?_) (fun q14 => ?_)
  · rw [if_pos q14] at h
    refine x_aload_nr dX11_heap_37 rfl ?_
    obtain ⟨_, e9, h⟩ := Option.bind_eq_some_iff.mp h
    obtain ⟨fse9, e9⟩ := kO_ok e9
    obtain ⟨r7, e8, h⟩ := Option.bind_eq_some_iff.mp h
    replace h := xU_ok h
    obtain ⟨P6, rfl, h⟩ := h
    refine x_callV (c_X11_parted hl e8) dX11_heap_38 cw_X11_parted wl_X11_367 wi_X11_parted wse_X11_parted rfl e9 (by decide) rfl (by omega) (by decide) rfl (Nat.le_of_ble_eq_true rfl) rfl (fun v9 P9 hq9 => ?_) (fun i9 P9 hq9 => by cases hq9)
    cases hq9
    refine x_aload_nr dX11_heap_41 rfl ?_
    obtain ⟨v10, e11, h⟩ := Option.bind_eq_some_iff.mp h
    refine k_rA e11 dX11_heap_42 f_X11_55 ?_
    refine x_iload_n dX11_heap_45 rfl ?_
    obtain ⟨v12, e13, h⟩ := Option.bind_eq_some_iff.mp h
    refine k_aI e13 dX11_heap_46 ?_
    cases h
    exact x_iret .int rfl rfl dX11_heap_47 hQ
  · rw [if_neg q14] at h
    refine x_iconst 0 dX11_heap_35 (by decide) ?_
    cases h
    exact x_iret .int rfl rfl dX11_heap_36 hQ
theorem s_X11_heap {G : xG} {l : Launch} (hl : l.stackTraces = false) : ∀ n pc env P z, f_X11_heap n pc env P = some z → ∀ L st, lay_X11_heap pc env = some (L, st) → ∀ Q : xR → xH → Prop, Q z.1 z.2 → Wp G l 40 mX11_heap pc L st P Q := by
  intro n
  induction n with
  | zero => intro pc env P z h; cases h
  | succ n ih =>
    intro pc env P z h L st hlay Q hQ
    unfold f_X11_heap at h
    split at h
    · cases hlay
      exact t_X11_heap_0 hl ih h hQ
    · cases hlay
      exact t_X11_heap_28 hl ih h hQ
    · cases h
theorem c_X11_heap {G : xG} {l : Launch} (hl : l.stackTraces = false) {n : Nat} {as : List Value} {P : xH} {z : xR × xH} (h : f_X11_heap n 0 as P = some z) : Ct G l 40 mX11_heap as P (fun r P1 => (r, P1) = z) := by
  cases n with
  | zero => cases h
  | succ n =>
    unfold f_X11_heap at h
    split at h
    · exact Ct.of hl (by decide +kernel) wc_X11_heap (Nat.le_of_ble_eq_true rfl) (t_X11_heap_0 hl (s_X11_heap hl _) h rfl)
    all_goals first | (cases h; done) | (rename_i q9 _; exact absurd q9 (by decide)) | (rename_i q9; exact absurd q9 (by decide)) | contradiction
/-! QuakeNetModel.stones(IIIII)I -/
def b_X11_stones_0 (n : Nat) (rec : Nat → List Value → xH → xO) (a0 : Nat) (a1 : Int32) (a2 : Int32) (a3 : Int32) (a4 : Int32) (a5 : Int32) (P : xH) : xO :=
  (wV P a0 11 0 (.int 0)).bind fun P1 =>
  (f_X11_noPlace n 0 [.int a1] P1).bind fun r4 => xI r4 fun v6 P3 =>
  (kO P3 a0 11).bind fun _ =>
  (f_X11_throwsIf n 0 [.ref a0, .int v6, .int 1] P3).bind fun r8 => xI r8 fun v10 P7 =>
  if ¬ v10 = 0 then
    some (.inl (some (.int 0)), P7)
  else
    (f_X11_in n 0 [.int a2, .int 0, .int 100] P7).bind fun r13 => xI r13 fun v15 P12 =>
    if v15 = 0 then
      rec 66 [.ref a0, .int a1, .int a2, .int a3, .int a4, .int a5, .ref a0, .int 1] P12
    else
      (f_X11_in n 0 [.int a3, .int 0, .int 100] P12).bind fun r17 => xI r17 fun v19 P16 =>
      if v19 = 0 then
        rec 66 [.ref a0, .int a1, .int a2, .int a3, .int a4, .int a5, .ref a0, .int 1] P16
      else
        (f_X11_in n 0 [.int a4, .int 0, .int 20] P16).bind fun r21 => xI r21 fun v23 P20 =>
        if v23 = 0 then
          rec 66 [.ref a0, .int a1, .int a2, .int a3, .int a4, .int a5, .ref a0, .int 1] P20
        else
          (f_X11_in n 0 [.int a5, .int 1, .int 1000] P20).bind fun r25 => xI r25 fun v27 P24 =>
          if ¬ v27 = 0 then
            rec 66 [.ref a0, .int a1, .int a2, .int a3, .int a4, .int a5, .ref a0, .int 0] P24
          else
            rec 66 [.ref a0, .int a1, .int a2, .int a3, .int a4, .int a5, .ref a0, .int 1] P24
def b_X11_stones_66 (n : Nat) (rec : Nat → List Value → xH → xO) (a0 : Nat) (a1 : Int32) (a2 : Int32) (a3 : Int32) (a4 : Int32) (a5 : Int32) (s0 : Nat) (s1 : Int32) (P : xH) : xO :=
  (kO P s0 11).bind fun _ =>
  (f_X11_throwsIf n 0 [.ref s0, .int s1, .int 2] P).bind fun r2 => xI r2 fun v4 P1 =>
  if ¬ v4 = 0 then
    some (.inl (some (.int 0)), P1)
  else
    (rA P1 a0 11 3).bind fun v6 =>
    (aI P1 v6 9).bind fun v8 =>
    if ¬ v8 = 5 then
      rec 90 [.ref a0, .int a1, .int a2, .int a3, .int a4, .int a5, .ref a0, .int 0] P1
    else
      rec 90 [.ref a0, .int a1, .int a2, .int a3, .int a4, .int a5, .ref a0, .int 1] P1
def b_X11_stones_90 (n : Nat) (rec : Nat → List Value → xH → xO) (a0 : Nat) (a1 : Int32) (a2 : Int32) (a3 : Int32) (a4 : Int32) (a5 : Int32) (s0 : Nat) (s1 : Int32) (P : xH) : xO :=
  (kO P s0 11).bind fun _ =>
  (f_X11_throwsIf n 0 [.ref s0, .int s1, .int 3] P).bind fun r2 => xI r2 fun v4 P1 =>
  if v4 = 0 then
    (rA P1 a0 11 3).bind fun v6 =>
    (aI P1 v6 9).bind fun v8 =>
    (rA P1 a0 11 3).bind fun v10 =>
    (sI P1 v10 ((1082 + ((6 * v8)))) a1).bind fun P12 =>
    (rA P12 a0 11 3).bind fun v14 =>
    (sI P12 v14 ((((1082 + ((6 * v8)))) + 1)) a2).bind fun P16 =>
    (rA P16 a0 11 3).bind fun v18 =>
    (sI P16 v18 ((((1082 + ((6 * v8)))) + 2)) a3).bind fun P20 =>
    (rA P20 a0 11 3).bind fun v22 =>
    (sI P20 v22 ((((1082 + ((6 * v8)))) + 3)) a4).bind fun P24 =>
    (rA P24 a0 11 3).bind fun v26 =>
    (sI P24 v26 ((((1082 + ((6 * v8)))) + 4)) a5).bind fun P28 =>
    (rA P28 a0 11 3).bind fun v30 =>
    (kO P28 a0 11).bind fun _ =>
    (f_X11_tick n 0 [.ref a0] P28).bind fun r33 => xI r33 fun v35 P32 =>
    (sI P32 v30 ((((1082 + ((6 * v8)))) + 5)) v35).bind fun P37 =>
    (rA P37 a0 11 3).bind fun v39 =>
    (aI P37 v39 9).bind fun v41 =>
    (sI P37 v39 9 ((v41 + 1))).bind fun P43 =>
    some (.inl (some (.int v8)), P43)
  else
    some (.inl (some (.int 0)), P1)
def lay_X11_stones : Nat → List Value → Option (xL × List Value)
  | 0, [a0, a1, a2, a3, a4, a5] => some ([some a0, some a1, some a2, some a3, some a4, some a5, none, none], [])
  | 66, [a0, a1, a2, a3, a4, a5, s0, s1] => some ([some a0, some a1, some a2, some a3, some a4, some a5, none, none], [s1, s0])
  | 90, [a0, a1, a2, a3, a4, a5, s0, s1] => some ([some a0, some a1, some a2, some a3, some a4, some a5, none, none], [s1, s0])
  | _, _ => none
def f_X11_stones : Nat → Nat → List Value → xH → xO
  | 0 => fun _ _ _ => none
  | n + 1 => fun pc env P => match pc, env with
    | 0, [.ref a0, .int a1, .int a2, .int a3, .int a4, .int a5] => b_X11_stones_0 n (f_X11_stones n) a0 a1 a2 a3 a4 a5 P
    | 66, [.ref a0, .int a1, .int a2, .int a3, .int a4, .int a5, .ref s0, .int s1] => b_X11_stones_66 n (f_X11_stones n) a0 a1 a2 a3 a4 a5 s0 s1 P
    | 90, [.ref a0, .int a1, .int a2, .int a3, .int a4, .int a5, .ref s0, .int s1] => b_X11_stones_90 n (f_X11_stones n) a0 a1 a2 a3 a4 a5 s0 s1 P
    | _, _ => none
set_option maxHeartbeats 2000000 in
set_option maxRecDepth 20000 in
theorem t_X11_stones_0 {G : xG} {l : Launch} (hl : l.stackTraces = false) {n : Nat} {rec : Nat → List Value → xH → xO} (hrec : ∀ pc env P z, rec pc env P = some z → ∀ L st, lay_X11_stones pc env = some (L, st) → ∀ Q : xR → xH → Prop, Q z.1 z.2 → Wp G l 5 mX11_stones pc L st P Q) {a0 a1 a2 a3 a4 a5} {P : xH} {z : xR × xH} (h : b_X11_stones_0 n rec a0 a1 a2 a3 a4 a5 P = some z) {Q : xR → xH → Prop} (hQ : Q z.1 z.2) : Wp G l 5 mX11_stones 0 [some (.ref a0), some (.int a1), some (.int a2), some (.int a3), some (.int a4), some (.int a5), none, none] [] P Q := by
  unfold b_X11_stones_0 at h
  refine x_aload_nr dX11_stones_0 rfl ?_
  refine x_iconst 0 dX11_stones_1 (by decide) ?_
  obtain ⟨P1, e2, h⟩ := Option.bind_eq_some_iff.mp h
  refine k_wI e2 dX11_stones_2 f_X11_3 (Or.inl (by decide)) rfl ?_
  refine x_aload_nr dX11_stones_5 rfl ?_
  refine x_iload_n dX11_stones_6 rfl ?_
  obtain ⟨r4, e5, h⟩ := Option.bind_eq_some_iff.mp h
  replace h := xI_ok h
  obtain ⟨v6, P3, rfl, h⟩ := h
  refine x_callS (c_X11_noPlace hl e5) dX11_stones_7 cw_X11_noPlace wl_X11_89 ws_X11_noPlace rfl (by omega) (by decide) rfl (Nat.le_of_ble_eq_true rfl) rfl (fun v9 P9 hq9 => ?_) (fun i9 P9 hq9 => by cases hq9)
  cases hq9
  refine x_iconst 1 dX11_stones_10 (by decide) ?_
  obtain ⟨_, e11, h⟩ := Option.bind_eq_some_iff.mp h
  obtain ⟨fse11, e11⟩ := kO_ok e11
  obtain ⟨r8, e9, h⟩ := Option.bind_eq_some_iff.mp h
  replace h := xI_ok h
  obtain ⟨v10, P7, rfl, h⟩ := h
  refine x_callV (c_X11_throwsIf hl e9) dX11_stones_11 cw_X11_throwsIf wl_X11_93 wi_X11_throwsIf wse_X11_throwsIf rfl e11 (by decide) rfl (by omega) (by decide) rfl (Nat.le_of_ble_eq_true rfl) rfl (fun v9 P9 hq9 => ?_) (fun i9 P9 hq9 => by cases hq9)
  cases hq9
  refine x_if_ne 97 dX11_stones_14 (by decide) (fun q32 => ?_) (fun q32 => ?_)
  · rw [if_pos q32] at h
    refine x_iconst 0 dX11_stones_97 (by decide) ?_
    cases h
    exact x_iret .int rfl rfl dX11_stones_98 hQ
  · rw [if_neg (fun z9 => z9 q32)] at h
    refine x_aload_nr dX11_stones_17 rfl ?_
    refine x_iload_n dX11_stones_18 rfl ?_
    refine x_iconst 0 dX11_stones_19 (by decide) ?_
    refine x_bipush 100 dX11_stones_20 (by decide) ?_
    obtain ⟨r13, e14, h⟩ := Option.bind_eq_some_iff.mp h
    replace h := xI_ok h
    obtain ⟨v15, P12, rfl, h⟩ := h
    refine x_callS (c_X11_in hl e14) dX11_stones_22 cw_X11_in wl_X11_68 ws_X11_in rfl (by omega) (by decide) rfl (Nat.le_of_ble_eq_true rfl) rfl (fun v9 P9 hq9 => ?_) (fun i9 P9 hq9 => by cases hq9)
    cases hq9
    refine x_if_eq 61 dX11_stones_25 (by decide) (fun q31 => ?_) (fun q31 => ?_)
    · rw [if_pos q31] at h
      refine x_iconst 1 dX11_stones_61 (by decide) ?_
      refine x_goto 66 dX11_stones_62 (by decide) ?_
      exact Wp.mask [true, true, true, true, true, true, false, false] (hrec 66 _ _ _ h _ _ rfl _ hQ)
    · rw [if_neg q31] at h
      refine x_iload_n dX11_stones_28 rfl ?_
      refine x_iconst 0 dX11_stones_29 (by decide) ?_
      refine x_bipush 100 dX11_stones_30 (by decide) ?_
      obtain ⟨r17, e18, h⟩ := Option.bind_eq_some_iff.mp h
      replace h := xI_ok h
      obtain ⟨v19, P16, rfl, h⟩ := h
      refine x_callS (c_X11_in hl e18) dX11_stones_32 cw_X11_in wl_X11_68 ws_X11_in rfl (by omega) (by decide) rfl (Nat.le_of_ble_eq_true rfl) rfl (fun v9 P9 hq9 => ?_) (fun i9 P9 hq9 => by cases hq9)
      cases hq9
      refine x_if_eq 61 dX11_stones_35 (by decide) (fun q30 => ?_) (fun q30 => ?_)
      · rw [if_pos q30] at h
        refine x_iconst 1 dX11_stones_61 (by decide) ?_
        refine x_goto 66 dX11_stones_62 (by decide) ?_
        exact Wp.mask [true, true, true, true, true, true, false, false] (hrec 66 _ _ _ h _ _ rfl _ hQ)
      · rw [if_neg q30] at h
        refine x_iload dX11_stones_38 rfl ?_
        refine x_iconst 0 dX11_stones_40 (by decide) ?_
        refine x_bipush 20 dX11_stones_41 (by decide) ?_
        obtain ⟨r21, e22, h⟩ := Option.bind_eq_some_iff.mp h
        replace h := xI_ok h
        obtain ⟨v23, P20, rfl, h⟩ := h
        refine x_callS (c_X11_in hl e22) dX11_stones_43 cw_X11_in wl_X11_68 ws_X11_in rfl (by omega) (by decide) rfl (Nat.le_of_ble_eq_true rfl) rfl (fun v9 P9 hq9 => ?_) (fun i9 P9 hq9 => by cases hq9)
        cases hq9
        refine x_if_eq 61 dX11_stones_46 (by decide) (fun q29 => ?_) (fun q29 => ?_)
        · rw [if_pos q29] at h
          refine x_iconst 1 dX11_stones_61 (by decide) ?_
          refine x_goto 66 dX11_stones_62 (by decide) ?_
          exact Wp.mask [true, true, true, true, true, true, false, false] (hrec 66 _ _ _ h _ _ rfl _ hQ)
        · rw [if_neg q29] at h
          refine x_iload dX11_stones_49 rfl ?_
          refine x_iconst 1 dX11_stones_51 (by decide) ?_
          refine x_sipush 1000 dX11_stones_52 (by decide) ?_
          obtain ⟨r25, e26, h⟩ := Option.bind_eq_some_iff.mp h
          replace h := xI_ok h
          obtain ⟨v27, P24, rfl, h⟩ := h
          refine x_callS (c_X11_in hl e26) dX11_stones_55 cw_X11_in wl_X11_68 ws_X11_in rfl (by omega) (by decide) rfl (Nat.le_of_ble_eq_true rfl) rfl (fun v9 P9 hq9 => ?_) (fun i9 P9 hq9 => by cases hq9)
          cases hq9
          refine x_if_ne 65 dX11_stones_58 (by decide) (fun q28 => ?_) (fun q28 => ?_)
          · rw [if_pos q28] at h
            refine x_iconst 0 dX11_stones_65 (by decide) ?_
            exact Wp.mask [true, true, true, true, true, true, false, false] (hrec 66 _ _ _ h _ _ rfl _ hQ)
          · rw [if_neg (fun z9 => z9 q28)] at h
            refine x_iconst 1 dX11_stones_61 (by decide) ?_
            refine x_goto 66 dX11_stones_62 (by decide) ?_
            exact Wp.mask [true, true, true, true, true, true, false, false] (hrec 66 _ _ _ h _ _ rfl _ hQ)
set_option maxHeartbeats 2000000 in
set_option maxRecDepth 20000 in
theorem t_X11_stones_66 {G : xG} {l : Launch} (hl : l.stackTraces = false) {n : Nat} {rec : Nat → List Value → xH → xO} (hrec : ∀ pc env P z, rec pc env P = some z → ∀ L st, lay_X11_stones pc env = some (L, st) → ∀ Q : xR → xH → Prop, Q z.1 z.2 → Wp G l 5 mX11_stones pc L st P Q) {a0 a1 a2 a3 a4 a5 s0 s1} {P : xH} {z : xR × xH} (h : b_X11_stones_66 n rec a0 a1 a2 a3 a4 a5 s0 s1 P = some z) {Q : xR → xH → Prop} (hQ : Q z.1 z.2) : Wp G l 5 mX11_stones 66 [some (.ref a0), some (.int a1), some (.int a2), some (.int a3), some (.int a4), some (.int a5), none, none] [.int s1, .ref s0] P Q := by
  unfold b_X11_stones_66 at h
  refine x_iconst 2 dX11_stones_66 (by decide) ?_
  obtain ⟨_, e5, h⟩ := Option.bind_eq_some_iff.mp h
  obtain ⟨fse5, e5⟩ := kO_ok e5
  obtain ⟨r2, e3, h⟩ := Option.bind_eq_some_iff.mp h
  replace h := xI_ok h
  obtain ⟨v4, P1, rfl, h⟩ := h
  refine x_callV (c_X11_throwsIf hl e3) dX11_stones_67 cw_X11_throwsIf wl_X11_93 wi_X11_throwsIf wse_X11_throwsIf rfl e5 (by decide) rfl (by omega) (by decide) rfl (Nat.le_of_ble_eq_true rfl) rfl (fun v9 P9 hq9 => ?_) (fun i9 P9 hq9 => by cases hq9)
  cases hq9
  refine x_if_ne 97 dX11_stones_70 (by decide) (fun q11 => ?_) (fun q11 => ?_)
  · rw [if_pos q11] at h
    refine x_iconst 0 dX11_stones_97 (by decide) ?_
    cases h
    exact x_iret .int rfl rfl dX11_stones_98 hQ
  · rw [if_neg (fun z9 => z9 q11)] at h
    refine x_aload_nr dX11_stones_73 rfl ?_
    refine x_aload_nr dX11_stones_74 rfl ?_
    obtain ⟨v6, e7, h⟩ := Option.bind_eq_some_iff.mp h
    refine k_rA e7 dX11_stones_75 f_X11_20 ?_
    refine x_bipush 9 dX11_stones_78 (by decide) ?_
    obtain ⟨v8, e9, h⟩ := Option.bind_eq_some_iff.mp h
    refine k_aI e9 dX11_stones_80 ?_
    refine x_iconst 5 dX11_stones_81 (by decide) ?_
    refine x_icmp_ne 89 dX11_stones_82 (by decide) (fun q10 => ?_) (fun q10 => ?_)
    · rw [if_pos q10] at h
      refine x_iconst 0 dX11_stones_89 (by decide) ?_
      exact Wp.mask [true, true, true, true, true, true, false, false] (hrec 90 _ _ _ h _ _ rfl _ hQ)
    · rw [if_neg (fun z9 => z9 q10)] at h
      refine x_iconst 1 dX11_stones_85 (by decide) ?_
      refine x_goto 90 dX11_stones_86 (by decide) ?_
      exact Wp.mask [true, true, true, true, true, true, false, false] (hrec 90 _ _ _ h _ _ rfl _ hQ)
set_option maxHeartbeats 2000000 in
set_option maxRecDepth 20000 in
theorem t_X11_stones_90 {G : xG} {l : Launch} (hl : l.stackTraces = false) {n : Nat} {rec : Nat → List Value → xH → xO} (hrec : ∀ pc env P z, rec pc env P = some z → ∀ L st, lay_X11_stones pc env = some (L, st) → ∀ Q : xR → xH → Prop, Q z.1 z.2 → Wp G l 5 mX11_stones pc L st P Q) {a0 a1 a2 a3 a4 a5 s0 s1} {P : xH} {z : xR × xH} (h : b_X11_stones_90 n rec a0 a1 a2 a3 a4 a5 s0 s1 P = some z) {Q : xR → xH → Prop} (hQ : Q z.1 z.2) : Wp G l 5 mX11_stones 90 [some (.ref a0), some (.int a1), some (.int a2), some (.int a3), some (.int a4), some (.int a5), none, none] [.int s1, .ref s0] P Q := by
  unfold b_X11_stones_90 at h
  refine x_iconst 3 dX11_stones_90 (by decide) ?_
  obtain ⟨_, e5, h⟩ := Option.bind_eq_some_iff.mp h
  obtain ⟨fse5, e5⟩ := kO_ok e5
  obtain ⟨r2, e3, h⟩ := Option.bind_eq_some_iff.mp h
  replace h := xI_ok h
  obtain ⟨v4, P1, rfl, h⟩ := h
  refine x_callV (c_X11_throwsIf hl e3) dX11_stones_91 cw_X11_throwsIf wl_X11_93 wi_X11_throwsIf wse_X11_throwsIf rfl e5 (by decide) rfl (by omega) (by decide) rfl (Nat.le_of_ble_eq_true rfl) rfl (fun v9 P9 hq9 => ?_) (fun i9 P9 hq9 => by cases hq9)
  cases hq9
  refine x_if_eq 99 dX11_stones_94 (by decide) (fun q45 => ?_) (fun q45 => ?_)
  · rw [if_pos q45] at h
    refine x_aload_nr dX11_stones_99 rfl ?_
    obtain ⟨v6, e7, h⟩ := Option.bind_eq_some_iff.mp h
    refine k_rA e7 dX11_stones_100 f_X11_20 ?_
    refine x_bipush 9 dX11_stones_103 (by decide) ?_
    obtain ⟨v8, e9, h⟩ := Option.bind_eq_some_iff.mp h
    refine k_aI e9 dX11_stones_105 ?_
    refine x_istore dX11_stones_106 (Nat.le_of_ble_eq_true rfl) ?_
    refine x_sipush 1082 dX11_stones_108 (by decide) ?_
    refine x_bipush 6 dX11_stones_111 (by decide) ?_
    refine x_iload dX11_stones_113 rfl ?_
    refine x_imul dX11_stones_115 ?_
    refine x_iadd dX11_stones_116 ?_
    refine x_istore dX11_stones_117 (Nat.le_of_ble_eq_true rfl) ?_
    refine x_aload_nr dX11_stones_119 rfl ?_
    obtain ⟨v10, e11, h⟩ := Option.bind_eq_some_iff.mp h
    refine k_rA e11 dX11_stones_120 f_X11_20 ?_
    refine x_iload dX11_stones_123 rfl ?_
    refine x_iload_n dX11_stones_125 rfl ?_
    obtain ⟨P12, e13, h⟩ := Option.bind_eq_some_iff.mp h
    refine k_sI e13 dX11_stones_126 ?_
    refine x_aload_nr dX11_stones_127 rfl ?_
    obtain ⟨v14, e15, h⟩ := Option.bind_eq_some_iff.mp h
    refine k_rA e15 dX11_stones_128 f_X11_20 ?_
    refine x_iload dX11_stones_131 rfl ?_
    refine x_iconst 1 dX11_stones_133 (by decide) ?_
    refine x_iadd dX11_stones_134 ?_
    refine x_iload_n dX11_stones_135 rfl ?_
    obtain ⟨P16, e17, h⟩ := Option.bind_eq_some_iff.mp h
    refine k_sI e17 dX11_stones_136 ?_
    refine x_aload_nr dX11_stones_137 rfl ?_
    obtain ⟨v18, e19, h⟩ := Option.bind_eq_some_iff.mp h
    refine k_rA e19 dX11_stones_138 f_X11_20 ?_
    refine x_iload dX11_stones_141 rfl ?_
    refine x_iconst 2 dX11_stones_143 (by decide) ?_
    refine x_iadd dX11_stones_144 ?_
    refine x_iload_n dX11_stones_145 rfl ?_
    obtain ⟨P20, e21, h⟩ := Option.bind_eq_some_iff.mp h
    refine k_sI e21 dX11_stones_146 ?_
    refine x_aload_nr dX11_stones_147 rfl ?_
    obtain ⟨v22, e23, h⟩ := Option.bind_eq_some_iff.mp h
    refine k_rA e23 dX11_stones_148 f_X11_20 ?_
    refine x_iload dX11_stones_151 rfl ?_
    refine x_iconst 3 dX11_stones_153 (by decide) ?_
    refine x_iadd dX11_stones_154 ?_
    refine x_iload dX11_stones_155 rfl ?_
    obtain ⟨P24, e25, h⟩ := Option.bind_eq_some_iff.mp h
    refine k_sI e25 dX11_stones_157 ?_
    refine x_aload_nr dX11_stones_158 rfl ?_
    obtain ⟨v26, e27, h⟩ := Option.bind_eq_some_iff.mp h
    refine k_rA e27 dX11_stones_159 f_X11_20 ?_
    refine x_iload dX11_stones_162 rfl ?_
    refine x_iconst 4 dX11_stones_164 (by decide) ?_
    refine x_iadd dX11_stones_165 ?_
    refine x_iload dX11_stones_166 rfl ?_
    obtain ⟨P28, e29, h⟩ := Option.bind_eq_some_iff.mp h
    refine k_sI e29 dX11_stones_168 ?_
    refine x_aload_nr dX11_stones_169 rfl ?_
    obtain ⟨v30, e31, h⟩ := Option.bind_eq_some_iff.mp h
    refine k_rA e31 dX11_stones_170 f_X11_20 ?_
    refine x_iload dX11_stones_173 rfl ?_
    refine x_iconst 5 dX11_stones_175 (by decide) ?_
    refine x_iadd dX11_stones_176 ?_
    refine x_aload_nr dX11_stones_177 rfl ?_
    obtain ⟨_, e36, h⟩ := Option.bind_eq_some_iff.mp h
    obtain ⟨fse36, e36⟩ := kO_ok e36
    obtain ⟨r33, e34, h⟩ := Option.bind_eq_some_iff.mp h
    replace h := xI_ok h
    obtain ⟨v35, P32, rfl, h⟩ := h
    refine x_callV (c_X11_tick hl e34) dX11_stones_178 cw_X11_tick wl_X11_97 wi_X11_tick wse_X11_tick rfl e36 (by decide) rfl (by omega) (by decide) rfl (Nat.le_of_ble_eq_true rfl) rfl (fun v9 P9 hq9 => ?_) (fun i9 P9 hq9 => by cases hq9)
    cases hq9
    obtain ⟨P37, e38, h⟩ := Option.bind_eq_some_iff.mp h
    refine k_sI e38 dX11_stones_181 ?_
    refine x_aload_nr dX11_stones_182 rfl ?_
    obtain ⟨v39, e40, h⟩ := Option.bind_eq_some_iff.mp h
    refine k_rA e40 dX11_stones_183 f_X11_20 ?_
    refine x_bipush 9 dX11_stones_186 (by decide) ?_
    refine x_dup2 dX11_stones_188 rfl rfl ?_
    obtain ⟨v41, e42, h⟩ := Option.bind_eq_some_iff.mp h
    refine k_aI e42 dX11_stones_189 ?_
    refine x_iconst 1 dX11_stones_190 (by decide) ?_
    refine x_iadd dX11_stones_191 ?_
    obtain ⟨P43, e44, h⟩ := Option.bind_eq_some_iff.mp h
    refine k_sI e44 dX11_stones_192 ?_
    refine x_iload dX11_stones_193 rfl ?_
    cases h
    exact x_iret .int rfl rfl dX11_stones_195 hQ
  · rw [if_neg q45] at h
    refine x_iconst 0 dX11_stones_97 (by decide) ?_
    cases h
    exact x_iret .int rfl rfl dX11_stones_98 hQ
theorem s_X11_stones {G : xG} {l : Launch} (hl : l.stackTraces = false) : ∀ n pc env P z, f_X11_stones n pc env P = some z → ∀ L st, lay_X11_stones pc env = some (L, st) → ∀ Q : xR → xH → Prop, Q z.1 z.2 → Wp G l 5 mX11_stones pc L st P Q := by
  intro n
  induction n with
  | zero => intro pc env P z h; cases h
  | succ n ih =>
    intro pc env P z h L st hlay Q hQ
    unfold f_X11_stones at h
    split at h
    · cases hlay
      exact t_X11_stones_0 hl ih h hQ
    · cases hlay
      exact t_X11_stones_66 hl ih h hQ
    · cases hlay
      exact t_X11_stones_90 hl ih h hQ
    · cases h
theorem c_X11_stones {G : xG} {l : Launch} (hl : l.stackTraces = false) {n : Nat} {as : List Value} {P : xH} {z : xR × xH} (h : f_X11_stones n 0 as P = some z) : Ct G l 5 mX11_stones as P (fun r P1 => (r, P1) = z) := by
  cases n with
  | zero => cases h
  | succ n =>
    unfold f_X11_stones at h
    split at h
    · exact Ct.of hl (by decide +kernel) wc_X11_stones (Nat.le_of_ble_eq_true rfl) (t_X11_stones_0 hl (s_X11_stones hl _) h rfl)
    all_goals first | (cases h; done) | (rename_i q9 _; exact absurd q9 (by decide)) | (rename_i q9; exact absurd q9 (by decide)) | contradiction
/-! QuakeNetModel.gang(II)I -/
def b_X11_gang_0 (n : Nat) (rec : Nat → List Value → xH → xO) (a0 : Nat) (a1 : Int32) (a2 : Int32) (P : xH) : xO :=
  (wV P a0 11 0 (.int 0)).bind fun P1 =>
  (f_X11_noPlace n 0 [.int a1] P1).bind fun r4 => xI r4 fun v6 P3 =>
  (kO P3 a0 11).bind fun _ =>
  (f_X11_throwsIf n 0 [.ref a0, .int v6, .int 1] P3).bind fun r8 => xI r8 fun v10 P7 =>
  if ¬ v10 = 0 then
    some (.inl (some (.int 0)), P7)
  else
    (f_X11_in n 0 [.int a2, .int 1, .int 100] P7).bind fun r13 => xI r13 fun v15 P12 =>
    if ¬ v15 = 0 then
      rec 33 [.ref a0, .int a1, .int a2, .ref a0, .int 0] P12
    else
      rec 33 [.ref a0, .int a1, .int a2, .ref a0, .int 1] P12
def b_X11_gang_33 (n : Nat) (rec : Nat → List Value → xH → xO) (a0 : Nat) (a1 : Int32) (a2 : Int32) (s0 : Nat) (s1 : Int32) (P : xH) : xO :=
  (kO P s0 11).bind fun _ =>
  (f_X11_throwsIf n 0 [.ref s0, .int s1, .int 2] P).bind fun r2 => xI r2 fun v4 P1 =>
  if ¬ v4 = 0 then
    some (.inl (some (.int 0)), P1)
  else
    (rA P1 a0 11 3).bind fun v6 =>
    (aI P1 v6 10).bind fun v8 =>
    if ¬ v8 = 4 then
      rec 57 [.ref a0, .int a1, .int a2, .ref a0, .int 0] P1
    else
      rec 57 [.ref a0, .int a1, .int a2, .ref a0, .int 1] P1
def b_X11_gang_57 (n : Nat) (rec : Nat → List Value → xH → xO) (a0 : Nat) (a1 : Int32) (a2 : Int32) (s0 : Nat) (s1 : Int32) (P : xH) : xO :=
  (kO P s0 11).bind fun _ =>
  (f_X11_throwsIf n 0 [.ref s0, .int s1, .int 3] P).bind fun r2 => xI r2 fun v4 P1 =>
  if v4 = 0 then
    (rA P1 a0 11 3).bind fun v6 =>
    (aI P1 v6 10).bind fun v8 =>
    (rA P1 a0 11 3).bind fun v10 =>
    (sI P1 v10 ((1112 + ((2 * v8)))) a1).bind fun P12 =>
    (rA P12 a0 11 3).bind fun v14 =>
    (sI P12 v14 ((((1112 + ((2 * v8)))) + 1)) a2).bind fun P16 =>
    (rA P16 a0 11 3).bind fun v18 =>
    (aI P16 v18 10).bind fun v20 =>
    (sI P16 v18 10 ((v20 + 1))).bind fun P22 =>
    some (.inl (some (.int v8)), P22)
  else
    some (.inl (some (.int 0)), P1)
def lay_X11_gang : Nat → List Value → Option (xL × List Value)
  | 0, [a0, a1, a2] => some ([some a0, some a1, some a2, none], [])
  | 33, [a0, a1, a2, s0, s1] => some ([some a0, some a1, some a2, none], [s1, s0])
  | 57, [a0, a1, a2, s0, s1] => some ([some a0, some a1, some a2, none], [s1, s0])
  | _, _ => none
def f_X11_gang : Nat → Nat → List Value → xH → xO
  | 0 => fun _ _ _ => none
  | n + 1 => fun pc env P => match pc, env with
    | 0, [.ref a0, .int a1, .int a2] => b_X11_gang_0 n (f_X11_gang n) a0 a1 a2 P
    | 33, [.ref a0, .int a1, .int a2, .ref s0, .int s1] => b_X11_gang_33 n (f_X11_gang n) a0 a1 a2 s0 s1 P
    | 57, [.ref a0, .int a1, .int a2, .ref s0, .int s1] => b_X11_gang_57 n (f_X11_gang n) a0 a1 a2 s0 s1 P
    | _, _ => none
set_option maxHeartbeats 2000000 in
set_option maxRecDepth 20000 in
theorem t_X11_gang_0 {G : xG} {l : Launch} (hl : l.stackTraces = false) {n : Nat} {rec : Nat → List Value → xH → xO} (hrec : ∀ pc env P z, rec pc env P = some z → ∀ L st, lay_X11_gang pc env = some (L, st) → ∀ Q : xR → xH → Prop, Q z.1 z.2 → Wp G l 5 mX11_gang pc L st P Q) {a0 a1 a2} {P : xH} {z : xR × xH} (h : b_X11_gang_0 n rec a0 a1 a2 P = some z) {Q : xR → xH → Prop} (hQ : Q z.1 z.2) : Wp G l 5 mX11_gang 0 [some (.ref a0), some (.int a1), some (.int a2), none] [] P Q := by
  unfold b_X11_gang_0 at h
  refine x_aload_nr dX11_gang_0 rfl ?_
  refine x_iconst 0 dX11_gang_1 (by decide) ?_
  obtain ⟨P1, e2, h⟩ := Option.bind_eq_some_iff.mp h
  refine k_wI e2 dX11_gang_2 f_X11_3 (Or.inl (by decide)) rfl ?_
  refine x_aload_nr dX11_gang_5 rfl ?_
  refine x_iload_n dX11_gang_6 rfl ?_
  obtain ⟨r4, e5, h⟩ := Option.bind_eq_some_iff.mp h
  replace h := xI_ok h
  obtain ⟨v6, P3, rfl, h⟩ := h
  refine x_callS (c_X11_noPlace hl e5) dX11_gang_7 cw_X11_noPlace wl_X11_89 ws_X11_noPlace rfl (by omega) (by decide) rfl (Nat.le_of_ble_eq_true rfl) rfl (fun v9 P9 hq9 => ?_) (fun i9 P9 hq9 => by cases hq9)
  cases hq9
  refine x_iconst 1 dX11_gang_10 (by decide) ?_
  obtain ⟨_, e11, h⟩ := Option.bind_eq_some_iff.mp h
  obtain ⟨fse11, e11⟩ := kO_ok e11
  obtain ⟨r8, e9, h⟩ := Option.bind_eq_some_iff.mp h
  replace h := xI_ok h
  obtain ⟨v10, P7, rfl, h⟩ := h
  refine x_callV (c_X11_throwsIf hl e9) dX11_gang_11 cw_X11_throwsIf wl_X11_93 wi_X11_throwsIf wse_X11_throwsIf rfl e11 (by decide) rfl (by omega) (by decide) rfl (Nat.le_of_ble_eq_true rfl) rfl (fun v9 P9 hq9 => ?_) (fun i9 P9 hq9 => by cases hq9)
  cases hq9
  refine x_if_ne 64 dX11_gang_14 (by decide) (fun q17 => ?_) (fun q17 => ?_)
  · rw [if_pos q17] at h
    refine x_iconst 0 dX11_gang_64 (by decide) ?_
    cases h
    exact x_iret .int rfl rfl dX11_gang_65 hQ
  · rw [if_neg (fun z9 => z9 q17)] at h
    refine x_aload_nr dX11_gang_17 rfl ?_
    refine x_iload_n dX11_gang_18 rfl ?_
    refine x_iconst 1 dX11_gang_19 (by decide) ?_
    refine x_bipush 100 dX11_gang_20 (by decide) ?_
    obtain ⟨r13, e14, h⟩ := Option.bind_eq_some_iff.mp h
    replace h := xI_ok h
    obtain ⟨v15, P12, rfl, h⟩ := h
    refine x_callS (c_X11_in hl e14) dX11_gang_22 cw_X11_in wl_X11_68 ws_X11_in rfl (by omega) (by decide) rfl (Nat.le_of_ble_eq_true rfl) rfl (fun v9 P9 hq9 => ?_) (fun i9 P9 hq9 => by cases hq9)
    cases hq9
    refine x_if_ne 32 dX11_gang_25 (by decide) (fun q16 => ?_) (fun q16 => ?_)
    · rw [if_pos q16] at h
      refine x_iconst 0 dX11_gang_32 (by decide) ?_
      exact Wp.mask [true, true, true, false] (hrec 33 _ _ _ h _ _ rfl _ hQ)
    · rw [if_neg (fun z9 => z9 q16)] at h
      refine x_iconst 1 dX11_gang_28 (by decide) ?_
      refine x_goto 33 dX11_gang_29 (by decide) ?_
      exact Wp.mask [true, true, true, false] (hrec 33 _ _ _ h _ _ rfl _ hQ)
set_option maxHeartbeats 2000000 in
set_option maxRecDepth 20000 in
theorem t_X11_gang_33 {G : xG} {l : Launch} (hl : l.stackTraces = false) {n : Nat} {rec : Nat → List Value → xH → xO} (hrec : ∀ pc env P z, rec pc env P = some z → ∀ L st, lay_X11_gang pc env = some (L, st) → ∀ Q : xR → xH → Prop, Q z.1 z.2 → Wp G l 5 mX11_gang pc L st P Q) {a0 a1 a2 s0 s1} {P : xH} {z : xR × xH} (h : b_X11_gang_33 n rec a0 a1 a2 s0 s1 P = some z) {Q : xR → xH → Prop} (hQ : Q z.1 z.2) : Wp G l 5 mX11_gang 33 [some (.ref a0), some (.int a1), some (.int a2), none] [.int s1, .ref s0] P Q := by
  unfold b_X11_gang_33 at h
  refine x_iconst 2 dX11_gang_33 (by decide) ?_
  obtain ⟨_, e5, h⟩ := Option.bind_eq_some_iff.mp h
  obtain ⟨fse5, e5⟩ := kO_ok e5
  obtain ⟨r2, e3, h⟩ := Option.bind_eq_some_iff.mp h
  replace h := xI_ok h
  obtain ⟨v4, P1, rfl, h⟩ := h
  refine x_callV (c_X11_throwsIf hl e3) dX11_gang_34 cw_X11_throwsIf wl_X11_93 wi_X11_throwsIf wse_X11_throwsIf rfl e5 (by decide) rfl (by omega) (by decide) rfl (Nat.le_of_ble_eq_true rfl) rfl (fun v9 P9 hq9 => ?_) (fun i9 P9 hq9 => by cases hq9)
  cases hq9
  refine x_if_ne 64 dX11_gang_37 (by decide) (fun q11 => ?_) (fun q11 => ?_)
  · rw [if_pos q11] at h
    refine x_iconst 0 dX11_gang_64 (by decide) ?_
    cases h
    exact x_iret .int rfl rfl dX11_gang_65 hQ
  · rw [if_neg (fun z9 => z9 q11)] at h
    refine x_aload_nr dX11_gang_40 rfl ?_
    refine x_aload_nr dX11_gang_41 rfl ?_
    obtain ⟨v6, e7, h⟩ := Option.bind_eq_some_iff.mp h
    refine k_rA e7 dX11_gang_42 f_X11_20 ?_
    refine x_bipush 10 dX11_gang_45 (by decide) ?_
    obtain ⟨v8, e9, h⟩ := Option.bind_eq_some_iff.mp h
    refine k_aI e9 dX11_gang_47 ?_
    refine x_iconst 4 dX11_gang_48 (by decide) ?_
    refine x_icmp_ne 56 dX11_gang_49 (by decide) (fun q10 => ?_) (fun q10 => ?_)
    · rw [if_pos q10] at h
      refine x_iconst 0 dX11_gang_56 (by decide) ?_
      exact Wp.mask [true, true, true, false] (hrec 57 _ _ _ h _ _ rfl _ hQ)
    · rw [if_neg (fun z9 => z9 q10)] at h
      refine x_iconst 1 dX11_gang_52 (by decide) ?_
      refine x_goto 57 dX11_gang_53 (by decide) ?_
      exact Wp.mask [true, true, true, false] (hrec 57 _ _ _ h _ _ rfl _ hQ)
set_option maxHeartbeats 2000000 in
set_option maxRecDepth 20000 in
theorem t_X11_gang_57 {G : xG} {l : Launch} (hl : l.stackTraces = false) {n : Nat} {rec : Nat → List Value → xH → xO} (hrec : ∀ pc env P z, rec pc env P = some z → ∀ L st, lay_X11_gang pc env = some (L, st) → ∀ Q : xR → xH → Prop, Q z.1 z.2 → Wp G l 5 mX11_gang pc L st P Q) {a0 a1 a2 s0 s1} {P : xH} {z : xR × xH} (h : b_X11_gang_57 n rec a0 a1 a2 s0 s1 P = some z) {Q : xR → xH → Prop} (hQ : Q z.1 z.2) : Wp G l 5 mX11_gang 57 [some (.ref a0), some (.int a1), some (.int a2), none] [.int s1, .ref s0] P Q := by
  unfold b_X11_gang_57 at h
  refine x_iconst 3 dX11_gang_57 (by decide) ?_
  obtain ⟨_, e5, h⟩ := Option.bind_eq_some_iff.mp h
  obtain ⟨fse5, e5⟩ := kO_ok e5
  obtain ⟨r2, e3, h⟩ := Option.bind_eq_some_iff.mp h
  replace h := xI_ok h
  obtain ⟨v4, P1, rfl, h⟩ := h
  refine x_callV (c_X11_throwsIf hl e3) dX11_gang_58 cw_X11_throwsIf wl_X11_93 wi_X11_throwsIf wse_X11_throwsIf rfl e5 (by decide) rfl (by omega) (by decide) rfl (Nat.le_of_ble_eq_true rfl) rfl (fun v9 P9 hq9 => ?_) (fun i9 P9 hq9 => by cases hq9)
  cases hq9
  refine x_if_eq 66 dX11_gang_61 (by decide) (fun q24 => ?_) (fun q24 => ?_)
  · rw [if_pos q24] at h
    refine x_aload_nr dX11_gang_66 rfl ?_
    obtain ⟨v6, e7, h⟩ := Option.bind_eq_some_iff.mp h
    refine k_rA e7 dX11_gang_67 f_X11_20 ?_
    refine x_bipush 10 dX11_gang_70 (by decide) ?_
    obtain ⟨v8, e9, h⟩ := Option.bind_eq_some_iff.mp h
    refine k_aI e9 dX11_gang_72 ?_
    refine x_istore_n dX11_gang_73 (Nat.le_of_ble_eq_true rfl) ?_
    refine x_aload_nr dX11_gang_74 rfl ?_
    obtain ⟨v10, e11, h⟩ := Option.bind_eq_some_iff.mp h
    refine k_rA e11 dX11_gang_75 f_X11_20 ?_
    refine x_sipush 1112 dX11_gang_78 (by decide) ?_
    refine x_iconst 2 dX11_gang_81 (by decide) ?_
    refine x_iload_n dX11_gang_82 rfl ?_
    refine x_imul dX11_gang_83 ?_
    refine x_iadd dX11_gang_84 ?_
    refine x_iload_n dX11_gang_85 rfl ?_
    obtain ⟨P12, e13, h⟩ := Option.bind_eq_some_iff.mp h
    refine k_sI e13 dX11_gang_86 ?_
    refine x_aload_nr dX11_gang_87 rfl ?_
    obtain ⟨v14, e15, h⟩ := Option.bind_eq_some_iff.mp h
    refine k_rA e15 dX11_gang_88 f_X11_20 ?_
    refine x_sipush 1112 dX11_gang_91 (by decide) ?_
    refine x_iconst 2 dX11_gang_94 (by decide) ?_
    refine x_iload_n dX11_gang_95 rfl ?_
    refine x_imul dX11_gang_96 ?_
    refine x_iadd dX11_gang_97 ?_
    refine x_iconst 1 dX11_gang_98 (by decide) ?_
    refine x_iadd dX11_gang_99 ?_
    refine x_iload_n dX11_gang_100 rfl ?_
    obtain ⟨P16, e17, h⟩ := Option.bind_eq_some_iff.mp h
    refine k_sI e17 dX11_gang_101 ?_
    refine x_aload_nr dX11_gang_102 rfl ?_
    obtain ⟨v18, e19, h⟩ := Option.bind_eq_some_iff.mp h
    refine k_rA e19 dX11_gang_103 f_X11_20 ?_
    refine x_bipush 10 dX11_gang_106 (by decide) ?_
    refine x_dup2 dX11_gang_108 rfl rfl ?_
    obtain ⟨v20, e21, h⟩ := Option.bind_eq_some_iff.mp h
    refine k_aI e21 dX11_gang_109 ?_
    refine x_iconst 1 dX11_gang_110 (by decide) ?_
    refine x_iadd dX11_gang_111 ?_
    obtain ⟨P22, e23, h⟩ := Option.bind_eq_some_iff.mp h
    refine k_sI e23 dX11_gang_112 ?_
    refine x_iload_n dX11_gang_113 rfl ?_
    cases h
    exact x_iret .int rfl rfl dX11_gang_114 hQ
  · rw [if_neg q24] at h
    refine x_iconst 0 dX11_gang_64 (by decide) ?_
    cases h
    exact x_iret .int rfl rfl dX11_gang_65 hQ
theorem s_X11_gang {G : xG} {l : Launch} (hl : l.stackTraces = false) : ∀ n pc env P z, f_X11_gang n pc env P = some z → ∀ L st, lay_X11_gang pc env = some (L, st) → ∀ Q : xR → xH → Prop, Q z.1 z.2 → Wp G l 5 mX11_gang pc L st P Q := by
  intro n
  induction n with
  | zero => intro pc env P z h; cases h
  | succ n ih =>
    intro pc env P z h L st hlay Q hQ
    unfold f_X11_gang at h
    split at h
    · cases hlay
      exact t_X11_gang_0 hl ih h hQ
    · cases hlay
      exact t_X11_gang_33 hl ih h hQ
    · cases hlay
      exact t_X11_gang_57 hl ih h hQ
    · cases h
theorem c_X11_gang {G : xG} {l : Launch} (hl : l.stackTraces = false) {n : Nat} {as : List Value} {P : xH} {z : xR × xH} (h : f_X11_gang n 0 as P = some z) : Ct G l 5 mX11_gang as P (fun r P1 => (r, P1) = z) := by
  cases n with
  | zero => cases h
  | succ n =>
    unfold f_X11_gang at h
    split at h
    · exact Ct.of hl (by decide +kernel) wc_X11_gang (Nat.le_of_ble_eq_true rfl) (t_X11_gang_0 hl (s_X11_gang hl _) h rfl)
    all_goals first | (cases h; done) | (rename_i q9 _; exact absurd q9 (by decide)) | (rename_i q9; exact absurd q9 (by decide)) | contradiction
/-! QuakeNetModel.noGang(I)Z -/
def b_X11_noGang_0 (n : Nat) (rec : Nat → List Value → xH → xO) (a0 : Nat) (a1 : Int32) (P : xH) : xO :=
  (rA P a0 11 3).bind fun v1 =>
  (aI P v1 10).bind fun v3 =>
  (f_X11_in n 0 [.int a1, .int 0, .int ((v3 - 1))] P).bind fun r6 => xI r6 fun v8 P5 =>
  if ¬ v8 = 0 then
    some (.inl (some (.int 0)), P5)
  else
    some (.inl (some (.int 1)), P5)
def lay_X11_noGang : Nat → List Value → Option (xL × List Value)
  | 0, [a0, a1] => some ([some a0, some a1], [])
  | _, _ => none
def f_X11_noGang : Nat → Nat → List Value → xH → xO
  | 0 => fun _ _ _ => none
  | n + 1 => fun pc env P => match pc, env with
    | 0, [.ref a0, .int a1] => b_X11_noGang_0 n (f_X11_noGang n) a0 a1 P
    | _, _ => none
set_option maxHeartbeats 2000000 in
set_option maxRecDepth 20000 in
theorem t_X11_noGang_0 {G : xG} {l : Launch} (hl : l.stackTraces = false) {n : Nat} {rec : Nat → List Value → xH → xO} (hrec : ∀ pc env P z, rec pc env P = some z → ∀ L st, lay_X11_noGang pc env = some (L, st) → ∀ Q : xR → xH → Prop, Q z.1 z.2 → Wp G l 4 mX11_noGang pc L st P Q) {a0 a1} {P : xH} {z : xR × xH} (h : b_X11_noGang_0 n rec a0 a1 P = some z) {Q : xR → xH → Prop} (hQ : Q z.1 z.2) : Wp G l 4 mX11_noGang 0 [some (.ref a0), some (.int a1)] [] P Q := by
  unfold b_X11_noGang_0 at h
  refine x_iload_n dX11_noGang_0 rfl ?_
  refine x_iconst 0 dX11_noGang_1 (by decide) ?_
  refine x_aload_nr dX11_noGang_2 rfl ?_
  obtain ⟨v1, e2, h⟩ := Option.bind_eq_some_iff.mp h
  refine k_rA e2 dX11_noGang_3 f_X11_20 ?_
  refine x_bipush 10 dX11_noGang_6 (by decide) ?_
  obtain ⟨v3, e4, h⟩ := Option.bind_eq_some_iff.mp h
  refine k_aI e4 dX11_noGang_8 ?_
  refine x_iconst 1 dX11_noGang_9 (by decide) ?_
  refine x_isub dX11_noGang_10 ?_
  obtain ⟨r6, e7, h⟩ := Option.bind_eq_some_iff.mp h
  replace h := xI_ok h
  obtain ⟨v8, P5, rfl, h⟩ := h
  refine x_callS (c_X11_in hl e7) dX11_noGang_11 cw_X11_in wl_X11_68 ws_X11_in rfl (by omega) (by decide) rfl (Nat.le_of_ble_eq_true rfl) rfl (fun v9 P9 hq9 => ?_) (fun i9 P9 hq9 => by cases hq9)
  cases hq9
  refine x_if_ne 21 dX11_noGang_14 (by decide) (fun q9 => ?_) (fun q9 => ?_)
  · rw [if_pos q9] at h
    refine x_iconst 0 dX11_noGang_21 (by decide) ?_
    cases h
    exact x_iret .boolean rfl rfl dX11_noGang_22 hQ
  · rw [if_neg (fun z9 => z9 q9)] at h
    refine x_iconst 1 dX11_noGang_17 (by decide) ?_
    refine x_goto 22 dX11_noGang_18 (by decide) ?_
    cases h
    exact x_iret .boolean rfl rfl dX11_noGang_22 hQ
theorem s_X11_noGang {G : xG} {l : Launch} (hl : l.stackTraces = false) : ∀ n pc env P z, f_X11_noGang n pc env P = some z → ∀ L st, lay_X11_noGang pc env = some (L, st) → ∀ Q : xR → xH → Prop, Q z.1 z.2 → Wp G l 4 mX11_noGang pc L st P Q := by
  intro n
  induction n with
  | zero => intro pc env P z h; cases h
  | succ n ih =>
    intro pc env P z h L st hlay Q hQ
    unfold f_X11_noGang at h
    split at h
    · cases hlay
      exact t_X11_noGang_0 hl ih h hQ
    · cases h
theorem c_X11_noGang {G : xG} {l : Launch} (hl : l.stackTraces = false) {n : Nat} {as : List Value} {P : xH} {z : xR × xH} (h : f_X11_noGang n 0 as P = some z) : Ct G l 4 mX11_noGang as P (fun r P1 => (r, P1) = z) := by
  cases n with
  | zero => cases h
  | succ n =>
    unfold f_X11_noGang at h
    split at h
    · exact Ct.of hl (by decide +kernel) wc_X11_noGang (Nat.le_of_ble_eq_true rfl) (t_X11_noGang_0 hl (s_X11_noGang hl _) h rfl)
    all_goals first | (cases h; done) | (rename_i q9 _; exact absurd q9 (by decide)) | (rename_i q9; exact absurd q9 (by decide)) | contradiction
/-! QuakeNetModel.savedBy(II)I -/
def b_X11_savedBy_0 (n : Nat) (rec : Nat → List Value → xH → xO) (a0 : Nat) (a1 : Int32) (a2 : Int32) (P : xH) : xO :=
  (rA P a0 11 3).bind fun v1 =>
  (aI P v1 ((((1112 + ((2 * a1)))) + 1))).bind fun v3 =>
  (kO P a0 11).bind fun _ =>
  (f_X11_tick n 0 [.ref a0] P).bind fun r6 => xI r6 fun v8 P5 =>
  (rA P5 a0 11 3).bind fun v10 =>
  (aI P5 v10 ((1112 + ((2 * a1))))).bind fun v12 =>
  (rA P5 a0 11 3).bind fun v14 =>
  (aI P5 v14 ((1082 + ((6 * a2))))).bind fun v16 =>
  (f_X11_between n 0 [.int v12, .int v16] P5).bind fun r19 => xI r19 fun v21 P18 =>
  (rA P18 a0 11 3).bind fun v22 =>
  (aI P18 v22 ((((1082 + ((6 * a2)))) + 4))).bind fun v24 =>
  if v3 = 0 then none else
  (rA P18 a0 11 3).bind fun v27 =>
  (aI P18 v27 ((((1082 + ((6 * a2)))) + 1))).bind fun v29 =>
  (rA P18 a0 11 3).bind fun v31 =>
  (aI P18 v31 ((((1082 + ((6 * a2)))) + 2))).bind fun v33 =>
  (rA P18 a0 11 3).bind fun v35 =>
  (aI P18 v35 ((((1082 + ((6 * a2)))) + 3))).bind fun v37 =>
  (rA P18 a0 11 3).bind fun v39 =>
  (aI P18 v39 ((((1082 + ((6 * a2)))) + 5))).bind fun v41 =>
  some (.inl (some (.int ((v29 * ((mMax 0 ((v33 - ((v37 * ((((((v8 + v21)) + ((((((v24 + v3)) - 1)) / v3)))) - v41)))))))))))), P18)
def lay_X11_savedBy : Nat → List Value → Option (xL × List Value)
  | 0, [a0, a1, a2] => some ([some a0, some a1, some a2, none, none, none], [])
  | _, _ => none
def f_X11_savedBy : Nat → Nat → List Value → xH → xO
  | 0 => fun _ _ _ => none
  | n + 1 => fun pc env P => match pc, env with
    | 0, [.ref a0, .int a1, .int a2] => b_X11_savedBy_0 n (f_X11_savedBy n) a0 a1 a2 P
    | _, _ => none
set_option maxHeartbeats 2000000 in
set_option maxRecDepth 20000 in
theorem t_X11_savedBy_0 {G : xG} {l : Launch} (hl : l.stackTraces = false) {n : Nat} {rec : Nat → List Value → xH → xO} (hrec : ∀ pc env P z, rec pc env P = some z → ∀ L st, lay_X11_savedBy pc env = some (L, st) → ∀ Q : xR → xH → Prop, Q z.1 z.2 → Wp G l 8 mX11_savedBy pc L st P Q) {a0 a1 a2} {P : xH} {z : xR × xH} (h : b_X11_savedBy_0 n rec a0 a1 a2 P = some z) {Q : xR → xH → Prop} (hQ : Q z.1 z.2) : Wp G l 8 mX11_savedBy 0 [some (.ref a0), some (.int a1), some (.int a2), none, none, none] [] P Q := by
  unfold b_X11_savedBy_0 at h
  refine x_sipush 1082 dX11_savedBy_0 (by decide) ?_
  refine x_bipush 6 dX11_savedBy_3 (by decide) ?_
  refine x_iload_n dX11_savedBy_5 rfl ?_
  refine x_imul dX11_savedBy_6 ?_
  refine x_iadd dX11_savedBy_7 ?_
  refine x_istore_n dX11_savedBy_8 (Nat.le_of_ble_eq_true rfl) ?_
  refine x_aload_nr dX11_savedBy_9 rfl ?_
  obtain ⟨v1, e2, h⟩ := Option.bind_eq_some_iff.mp h
  refine k_rA e2 dX11_savedBy_10 f_X11_20 ?_
  refine x_sipush 1112 dX11_savedBy_13 (by decide) ?_
  refine x_iconst 2 dX11_savedBy_16 (by decide) ?_
  refine x_iload_n dX11_savedBy_17 rfl ?_
  refine x_imul dX11_savedBy_18 ?_
  refine x_iadd dX11_savedBy_19 ?_
  refine x_iconst 1 dX11_savedBy_20 (by decide) ?_
  refine x_iadd dX11_savedBy_21 ?_
  obtain ⟨v3, e4, h⟩ := Option.bind_eq_some_iff.mp h
  refine k_aI e4 dX11_savedBy_22 ?_
  refine x_istore dX11_savedBy_23 (Nat.le_of_ble_eq_true rfl) ?_
  refine x_aload_nr dX11_savedBy_25 rfl ?_
  obtain ⟨_, e9, h⟩ := Option.bind_eq_some_iff.mp h
  obtain ⟨fse9, e9⟩ := kO_ok e9
  obtain ⟨r6, e7, h⟩ := Option.bind_eq_some_iff.mp h
  replace h := xI_ok h
  obtain ⟨v8, P5, rfl, h⟩ := h
  refine x_callV (c_X11_tick hl e7) dX11_savedBy_26 cw_X11_tick wl_X11_97 wi_X11_tick wse_X11_tick rfl e9 (by decide) rfl (by omega) (by decide) rfl (Nat.le_of_ble_eq_true rfl) rfl (fun v9 P9 hq9 => ?_) (fun i9 P9 hq9 => by cases hq9)
  cases hq9
  refine x_aload_nr dX11_savedBy_29 rfl ?_
  obtain ⟨v10, e11, h⟩ := Option.bind_eq_some_iff.mp h
  refine k_rA e11 dX11_savedBy_30 f_X11_20 ?_
  refine x_sipush 1112 dX11_savedBy_33 (by decide) ?_
  refine x_iconst 2 dX11_savedBy_36 (by decide) ?_
  refine x_iload_n dX11_savedBy_37 rfl ?_
  refine x_imul dX11_savedBy_38 ?_
  refine x_iadd dX11_savedBy_39 ?_
  obtain ⟨v12, e13, h⟩ := Option.bind_eq_some_iff.mp h
  refine k_aI e13 dX11_savedBy_40 ?_
  refine x_aload_nr dX11_savedBy_41 rfl ?_
  obtain ⟨v14, e15, h⟩ := Option.bind_eq_some_iff.mp h
  refine k_rA e15 dX11_savedBy_42 f_X11_20 ?_
  refine x_iload_n dX11_savedBy_45 rfl ?_
  obtain ⟨v16, e17, h⟩ := Option.bind_eq_some_iff.mp h
  refine k_aI e17 dX11_savedBy_46 ?_
  obtain ⟨r19, e20, h⟩ := Option.bind_eq_some_iff.mp h
  replace h := xI_ok h
  obtain ⟨v21, P18, rfl, h⟩ := h
  refine x_callS (c_X11_between hl e20) dX11_savedBy_47 cw_X11_between wl_X11_334 ws_X11_between rfl (by omega) (by decide) rfl (Nat.le_of_ble_eq_true rfl) rfl (fun v9 P9 hq9 => ?_) (fun i9 P9 hq9 => by cases hq9)
  cases hq9
  refine x_iadd dX11_savedBy_50 ?_
  refine x_aload_nr dX11_savedBy_51 rfl ?_
  obtain ⟨v22, e23, h⟩ := Option.bind_eq_some_iff.mp h
  refine k_rA e23 dX11_savedBy_52 f_X11_20 ?_
  refine x_iload_n dX11_savedBy_55 rfl ?_
  refine x_iconst 4 dX11_savedBy_56 (by decide) ?_
  refine x_iadd dX11_savedBy_57 ?_
  obtain ⟨v24, e25, h⟩ := Option.bind_eq_some_iff.mp h
  refine k_aI e25 dX11_savedBy_58 ?_
  refine x_iload dX11_savedBy_59 rfl ?_
  refine x_iadd dX11_savedBy_61 ?_
  refine x_iconst 1 dX11_savedBy_62 (by decide) ?_
  refine x_isub dX11_savedBy_63 ?_
  refine x_iload dX11_savedBy_64 rfl ?_
  by_cases q26 : v3 = 0
  · rw [if_pos q26] at h; cases h
  rw [if_neg q26] at h
  refine x_idiv dX11_savedBy_66 q26 ?_
  refine x_iadd dX11_savedBy_67 ?_
  refine x_istore dX11_savedBy_68 (Nat.le_of_ble_eq_true rfl) ?_
  refine x_aload_nr dX11_savedBy_70 rfl ?_
  obtain ⟨v27, e28, h⟩ := Option.bind_eq_some_iff.mp h
  refine k_rA e28 dX11_savedBy_71 f_X11_20 ?_
  refine x_iload_n dX11_savedBy_74 rfl ?_
  refine x_iconst 1 dX11_savedBy_75 (by decide) ?_
  refine x_iadd dX11_savedBy_76 ?_
  obtain ⟨v29, e30, h⟩ := Option.bind_eq_some_iff.mp h
  refine k_aI e30 dX11_savedBy_77 ?_
  refine x_iconst 0 dX11_savedBy_78 (by decide) ?_
  refine x_aload_nr dX11_savedBy_79 rfl ?_
  obtain ⟨v31, e32, h⟩ := Option.bind_eq_some_iff.mp h
  refine k_rA e32 dX11_savedBy_80 f_X11_20 ?_
  refine x_iload_n dX11_savedBy_83 rfl ?_
  refine x_iconst 2 dX11_savedBy_84 (by decide) ?_
  refine x_iadd dX11_savedBy_85 ?_
  obtain ⟨v33, e34, h⟩ := Option.bind_eq_some_iff.mp h
  refine k_aI e34 dX11_savedBy_86 ?_
  refine x_aload_nr dX11_savedBy_87 rfl ?_
  obtain ⟨v35, e36, h⟩ := Option.bind_eq_some_iff.mp h
  refine k_rA e36 dX11_savedBy_88 f_X11_20 ?_
  refine x_iload_n dX11_savedBy_91 rfl ?_
  refine x_iconst 3 dX11_savedBy_92 (by decide) ?_
  refine x_iadd dX11_savedBy_93 ?_
  obtain ⟨v37, e38, h⟩ := Option.bind_eq_some_iff.mp h
  refine k_aI e38 dX11_savedBy_94 ?_
  refine x_iload dX11_savedBy_95 rfl ?_
  refine x_aload_nr dX11_savedBy_97 rfl ?_
  obtain ⟨v39, e40, h⟩ := Option.bind_eq_some_iff.mp h
  refine k_rA e40 dX11_savedBy_98 f_X11_20 ?_
  refine x_iload_n dX11_savedBy_101 rfl ?_
  refine x_iconst 5 dX11_savedBy_102 (by decide) ?_
  refine x_iadd dX11_savedBy_103 ?_
  obtain ⟨v41, e42, h⟩ := Option.bind_eq_some_iff.mp h
  refine k_aI e42 dX11_savedBy_104 ?_
  refine x_isub dX11_savedBy_105 ?_
  refine x_imul dX11_savedBy_106 ?_
  refine x_isub dX11_savedBy_107 ?_
  refine x_mmax dX11_savedBy_108 wl_X11_228 (Nat.le_of_ble_eq_true rfl) (by omega) ?_
  refine x_imul dX11_savedBy_111 ?_
  cases h
  exact x_iret .int rfl rfl dX11_savedBy_112 hQ
theorem s_X11_savedBy {G : xG} {l : Launch} (hl : l.stackTraces = false) : ∀ n pc env P z, f_X11_savedBy n pc env P = some z → ∀ L st, lay_X11_savedBy pc env = some (L, st) → ∀ Q : xR → xH → Prop, Q z.1 z.2 → Wp G l 8 mX11_savedBy pc L st P Q := by
  intro n
  induction n with
  | zero => intro pc env P z h; cases h
  | succ n ih =>
    intro pc env P z h L st hlay Q hQ
    unfold f_X11_savedBy at h
    split at h
    · cases hlay
      exact t_X11_savedBy_0 hl ih h hQ
    · cases h
theorem c_X11_savedBy {G : xG} {l : Launch} (hl : l.stackTraces = false) {n : Nat} {as : List Value} {P : xH} {z : xR × xH} (h : f_X11_savedBy n 0 as P = some z) : Ct G l 8 mX11_savedBy as P (fun r P1 => (r, P1) = z) := by
  cases n with
  | zero => cases h
  | succ n =>
    unfold f_X11_savedBy at h
    split at h
    · exact Ct.of hl (by decide +kernel) wc_X11_savedBy (Nat.le_of_ble_eq_true rfl) (t_X11_savedBy_0 hl (s_X11_savedBy hl _) h rfl)
    all_goals first | (cases h; done) | (rename_i q9 _; exact absurd q9 (by decide)) | (rename_i q9; exact absurd q9 (by decide)) | contradiction
/-! QuakeNetModel.saved(II)I -/
def b_X11_saved_0 (n : Nat) (rec : Nat → List Value → xH → xO) (a0 : Nat) (a1 : Int32) (a2 : Int32) (P : xH) : xO :=
  (wV P a0 11 0 (.int 0)).bind fun P1 =>
  (kO P1 a0 11).bind fun _ =>
  (f_X11_noGang n 0 [.ref a0, .int a1] P1).bind fun r4 => xI r4 fun v6 P3 =>
  if ¬ v6 = 0 then
    rec 36 [.ref a0, .int a1, .int a2, .ref a0, .int 1] P3
  else
    (rA P3 a0 11 3).bind fun v8 =>
    (aI P3 v8 9).bind fun v10 =>
    (f_X11_in n 0 [.int a2, .int 0, .int ((v10 - 1))] P3).bind fun r13 => xI r13 fun v15 P12 =>
    if ¬ v15 = 0 then
      rec 36 [.ref a0, .int a1, .int a2, .ref a0, .int 0] P12
    else
      rec 36 [.ref a0, .int a1, .int a2, .ref a0, .int 1] P12
def b_X11_saved_36 (n : Nat) (rec : Nat → List Value → xH → xO) (a0 : Nat) (a1 : Int32) (a2 : Int32) (s0 : Nat) (s1 : Int32) (P : xH) : xO :=
  (kO P s0 11).bind fun _ =>
  (f_X11_throwsIf n 0 [.ref s0, .int s1, .int 1] P).bind fun r2 => xI r2 fun v4 P1 =>
  if v4 = 0 then
    (kO P1 a0 11).bind fun _ =>
    (f_X11_savedBy n 0 [.ref a0, .int a1, .int a2] P1).bind fun r7 => xI r7 fun v9 P6 =>
    some (.inl (some (.int v9)), P6)
  else
    some (.inl (some (.int 0)), P1)
def lay_X11_saved : Nat → List Value → Option (xL × List Value)
  | 0, [a0, a1, a2] => some ([some a0, some a1, some a2], [])
  | 36, [a0, a1, a2, s0, s1] => some ([some a0, some a1, some a2], [s1, s0])
  | _, _ => none
def f_X11_saved : Nat → Nat → List Value → xH → xO
  | 0 => fun _ _ _ => none
  | n + 1 => fun pc env P => match pc, env with
    | 0, [.ref a0, .int a1, .int a2] => b_X11_saved_0 n (f_X11_saved n) a0 a1 a2 P
    | 36, [.ref a0, .int a1, .int a2, .ref s0, .int s1] => b_X11_saved_36 n (f_X11_saved n) a0 a1 a2 s0 s1 P
    | _, _ => none
set_option maxHeartbeats 2000000 in
set_option maxRecDepth 20000 in
theorem t_X11_saved_0 {G : xG} {l : Launch} (hl : l.stackTraces = false) {n : Nat} {rec : Nat → List Value → xH → xO} (hrec : ∀ pc env P z, rec pc env P = some z → ∀ L st, lay_X11_saved pc env = some (L, st) → ∀ Q : xR → xH → Prop, Q z.1 z.2 → Wp G l 9 mX11_saved pc L st P Q) {a0 a1 a2} {P : xH} {z : xR × xH} (h : b_X11_saved_0 n rec a0 a1 a2 P = some z) {Q : xR → xH → Prop} (hQ : Q z.1 z.2) : Wp G l 9 mX11_saved 0 [some (.ref a0), some (.int a1), some (.int a2)] [] P Q := by
  unfold b_X11_saved_0 at h
  refine x_aload_nr dX11_saved_0 rfl ?_
  refine x_iconst 0 dX11_saved_1 (by decide) ?_
  obtain ⟨P1, e2, h⟩ := Option.bind_eq_some_iff.mp h
  refine k_wI e2 dX11_saved_2 f_X11_3 (Or.inl (by decide)) rfl ?_
  refine x_aload_nr dX11_saved_5 rfl ?_
  refine x_aload_nr dX11_saved_6 rfl ?_
  refine x_iload_n dX11_saved_7 rfl ?_
  obtain ⟨_, e7, h⟩ := Option.bind_eq_some_iff.mp h
  obtain ⟨fse7, e7⟩ := kO_ok e7
  obtain ⟨r4, e5, h⟩ := Option.bind_eq_some_iff.mp h
  replace h := xI_ok h
  obtain ⟨v6, P3, rfl, h⟩ := h
  refine x_callV (c_X11_noGang hl e5) dX11_saved_8 cw_X11_noGang wl_X11_370 wi_X11_noGang wse_X11_noGang rfl e7 (by decide) rfl (by omega) (by decide) rfl (Nat.le_of_ble_eq_true rfl) rfl (fun v9 P9 hq9 => ?_) (fun i9 P9 hq9 => by cases hq9)
  cases hq9
  refine x_if_ne 31 dX11_saved_11 (by decide) (fun q17 => ?_) (fun q17 => ?_)
  · rw [if_pos q17] at h
    refine x_iconst 1 dX11_saved_31 (by decide) ?_
    refine x_goto 36 dX11_saved_32 (by decide) ?_
    exact Wp.mask [true, true, true] (hrec 36 _ _ _ h _ _ rfl _ hQ)
  · rw [if_neg (fun z9 => z9 q17)] at h
    refine x_iload_n dX11_saved_14 rfl ?_
    refine x_iconst 0 dX11_saved_15 (by decide) ?_
    refine x_aload_nr dX11_saved_16 rfl ?_
    obtain ⟨v8, e9, h⟩ := Option.bind_eq_some_iff.mp h
    refine k_rA e9 dX11_saved_17 f_X11_20 ?_
    refine x_bipush 9 dX11_saved_20 (by decide) ?_
    obtain ⟨v10, e11, h⟩ := Option.bind_eq_some_iff.mp h
    refine k_aI e11 dX11_saved_22 ?_
    refine x_iconst 1 dX11_saved_23 (by decide) ?_
    refine x_isub dX11_saved_24 ?_
    obtain ⟨r13, e14, h⟩ := Option.bind_eq_some_iff.mp h
    replace h := xI_ok h
    obtain ⟨v15, P12, rfl, h⟩ := h
    refine x_callS (c_X11_in hl e14) dX11_saved_25 cw_X11_in wl_X11_68 ws_X11_in rfl (by omega) (by decide) rfl (Nat.le_of_ble_eq_true rfl) rfl (fun v9 P9 hq9 => ?_) (fun i9 P9 hq9 => by cases hq9)
    cases hq9
    refine x_if_ne 35 dX11_saved_28 (by decide) (fun q16 => ?_) (fun q16 => ?_)
    · rw [if_pos q16] at h
      refine x_iconst 0 dX11_saved_35 (by decide) ?_
      exact Wp.mask [true, true, true] (hrec 36 _ _ _ h _ _ rfl _ hQ)
    · rw [if_neg (fun z9 => z9 q16)] at h
      refine x_iconst 1 dX11_saved_31 (by decide) ?_
      refine x_goto 36 dX11_saved_32 (by decide) ?_
      exact Wp.mask [true, true, true] (hrec 36 _ _ _ h _ _ rfl _ hQ)
set_option maxHeartbeats 2000000 in
set_option maxRecDepth 20000 in
theorem t_X11_saved_36 {G : xG} {l : Launch} (hl : l.stackTraces = false) {n : Nat} {rec : Nat → List Value → xH → xO} (hrec : ∀ pc env P z, rec pc env P = some z → ∀ L st, lay_X11_saved pc env = some (L, st) → ∀ Q : xR → xH → Prop, Q z.1 z.2 → Wp G l 9 mX11_saved pc L st P Q) {a0 a1 a2 s0 s1} {P : xH} {z : xR × xH} (h : b_X11_saved_36 n rec a0 a1 a2 s0 s1 P = some z) {Q : xR → xH → Prop} (hQ : Q z.1 z.2) : Wp G l 9 mX11_saved 36 [some (.ref a0), some (.int a1), some (.int a2)] [.int s1, .ref s0] P Q := by
  unfold b_X11_saved_36 at h
  refine x_iconst 1 dX11_saved_36 (by decide) ?_
  obtain ⟨_, e5, h⟩ := Option.bind_eq_some_iff.mp h
  obtain ⟨fse5, e5⟩ := kO_ok e5
  obtain ⟨r2, e3, h⟩ := Option.bind_eq_some_iff.mp h
  replace h := xI_ok h
  obtain ⟨v4, P1, rfl, h⟩ := h
  refine x_callV (c_X11_throwsIf hl e3) dX11_saved_37 cw_X11_throwsIf wl_X11_93 wi_X11_throwsIf wse_X11_throwsIf rfl e5 (by decide) rfl (by omega) (by decide) rfl (Nat.le_of_ble_eq_true rfl) rfl (fun v9 P9 hq9 => ?_) (fun i9 P9 hq9 => by cases hq9)
  cases hq9
  refine x_if_eq 47 dX11_saved_40 (by decide) (fun q11 => ?_) (fun q11 => ?_)
  · rw [if_pos q11] at h
    refine x_aload_nr dX11_saved_47 rfl ?_
    refine x_iload_n dX11_saved_48 rfl ?_
    refine x_iload_n dX11_saved_49 rfl ?_
    obtain ⟨_, e10, h⟩ := Option.bind_eq_some_iff.mp h
    obtain ⟨fse10, e10⟩ := kO_ok e10
    obtain ⟨r7, e8, h⟩ := Option.bind_eq_some_iff.mp h
    replace h := xI_ok h
    obtain ⟨v9, P6, rfl, h⟩ := h
    refine x_callV (c_X11_savedBy hl e8) dX11_saved_50 cw_X11_savedBy wl_X11_373 wi_X11_savedBy wse_X11_savedBy rfl e10 (by decide) rfl (by omega) (by decide) rfl (Nat.le_of_ble_eq_true rfl) rfl (fun v9 P9 hq9 => ?_) (fun i9 P9 hq9 => by cases hq9)
    cases hq9
    cases h
    exact x_iret .int rfl rfl dX11_saved_53 hQ
  · rw [if_neg q11] at h
    refine x_iconst 0 dX11_saved_43 (by decide) ?_
    refine x_goto 53 dX11_saved_44 (by decide) ?_
    cases h
    exact x_iret .int rfl rfl dX11_saved_53 hQ
theorem s_X11_saved {G : xG} {l : Launch} (hl : l.stackTraces = false) : ∀ n pc env P z, f_X11_saved n pc env P = some z → ∀ L st, lay_X11_saved pc env = some (L, st) → ∀ Q : xR → xH → Prop, Q z.1 z.2 → Wp G l 9 mX11_saved pc L st P Q := by
  intro n
  induction n with
  | zero => intro pc env P z h; cases h
  | succ n ih =>
    intro pc env P z h L st hlay Q hQ
    unfold f_X11_saved at h
    split at h
    · cases hlay
      exact t_X11_saved_0 hl ih h hQ
    · cases hlay
      exact t_X11_saved_36 hl ih h hQ
    · cases h
theorem c_X11_saved {G : xG} {l : Launch} (hl : l.stackTraces = false) {n : Nat} {as : List Value} {P : xH} {z : xR × xH} (h : f_X11_saved n 0 as P = some z) : Ct G l 9 mX11_saved as P (fun r P1 => (r, P1) = z) := by
  cases n with
  | zero => cases h
  | succ n =>
    unfold f_X11_saved at h
    split at h
    · exact Ct.of hl (by decide +kernel) wc_X11_saved (Nat.le_of_ble_eq_true rfl) (t_X11_saved_0 hl (s_X11_saved hl _) h rfl)
    all_goals first | (cases h; done) | (rename_i q9 _; exact absurd q9 (by decide)) | (rename_i q9; exact absurd q9 (by decide)) | contradiction
def mt_X11_sends : Nat → xM
  | _ => mX11_sends
/-! QuakeNetModel.sends(III)V -/
def b_X11_sends_0 (n : Nat) (cr : Nat → List Value → xH → xO) (rec : Nat → List Value → xH → xO) (a0 : Nat) (a1 : Int32) (a2 : Int32) (a3 : Int32) (P : xH) : xO :=
  (rA P a0 11 3).bind fun v1 =>
  (aI P v1 10).bind fun v3 =>
  if ¬ a1 = v3 then
    rec 58 [.ref a0, .int a1, .int a2, .int a3, .int 0] P
  else
    (rI P a0 11 29).bind fun v5 =>
    if v5 < a3 then
      (wV P a0 11 29 (.int a3)).bind fun P7 =>
      rec 28 [.ref a0, .int a1, .int a2, .int a3, .int 0] P7
    else
      some (.inl none, P)
def b_X11_sends_28 (n : Nat) (cr : Nat → List Value → xH → xO) (rec : Nat → List Value → xH → xO) (a0 : Nat) (a1 : Int32) (a2 : Int32) (a3 : Int32) (a4 : Int32) (P : xH) : xO :=
  if a1 ≤ a4 then
    some (.inl none, P)
  else
    (rA P a0 11 28).bind fun v1 =>
    (rA P a0 11 27).bind fun v3 =>
    (aI P v3 a4).bind fun v5 =>
    (sI P v1 a4 v5).bind fun P7 =>
    rec 28 [.ref a0, .int a1, .int a2, .int a3, .int ((a4 + 1))] P7
def b_X11_sends_58 (n : Nat) (cr : Nat → List Value → xH → xO) (rec : Nat → List Value → xH → xO) (a0 : Nat) (a1 : Int32) (a2 : Int32) (a3 : Int32) (a4 : Int32) (P : xH) : xO :=
  (rA P a0 11 3).bind fun v1 =>
  (aI P v1 9).bind fun v3 =>
  if v3 ≤ a4 then
    (rA P a0 11 27).bind fun v5 =>
    (sI P v5 a1 ((-1))).bind fun P7 =>
    (kO P7 a0 11).bind fun _ =>
    (cr 0 [.ref a0, .int ((a1 + 1)), .int a2, .int a3] P7).bind fun r10 => xU r10 fun P9 =>
    some (.inl none, P9)
  else
    if ¬ ((((a2 >>> (a4 &&& 31))) &&& 1)) = 1 then
      (rA P a0 11 27).bind fun v13 =>
      (sI P v13 a1 a4).bind fun P15 =>
      (kO P15 a0 11).bind fun _ =>
      (f_X11_savedBy n 0 [.ref a0, .int a1, .int a4] P15).bind fun r18 => xI r18 fun v20 P17 =>
      (kO P17 a0 11).bind fun _ =>
      (cr 0 [.ref a0, .int ((a1 + 1)), .int ((a2 ||| ((1 <<< (a4 &&& 31))))), .int ((a3 + v20))] P17).bind fun r23 => xU r23 fun P22 =>
      rec 58 [.ref a0, .int a1, .int a2, .int a3, .int ((a4 + 1))] P22
    else
      rec 58 [.ref a0, .int a1, .int a2, .int a3, .int ((a4 + 1))] P
def lay_X11_sends : Nat → List Value → Option (xL × List Value)
  | 0, [a0, a1, a2, a3] => some ([some a0, some a1, some a2, some a3, none], [])
  | 28, [a0, a1, a2, a3, a4] => some ([some a0, some a1, some a2, some a3, some a4], [])
  | 58, [a0, a1, a2, a3, a4] => some ([some a0, some a1, some a2, some a3, some a4], [])
  | _, _ => none
def g_X11_sends (cr : Nat → List Value → xH → xO) : Nat → Nat → List Value → xH → xO
  | 0 => fun _ _ _ => none
  | n + 1 => fun pc env P => match pc, env with
    | 0, [.ref a0, .int a1, .int a2, .int a3] => b_X11_sends_0 n cr (g_X11_sends cr n) a0 a1 a2 a3 P
    | 28, [.ref a0, .int a1, .int a2, .int a3, .int a4] => b_X11_sends_28 n cr (g_X11_sends cr n) a0 a1 a2 a3 a4 P
    | 58, [.ref a0, .int a1, .int a2, .int a3, .int a4] => b_X11_sends_58 n cr (g_X11_sends cr n) a0 a1 a2 a3 a4 P
    | _, _ => none
set_option maxHeartbeats 2000000 in
set_option maxRecDepth 20000 in
theorem t_X11_sends_0 {G : xG} {l : Launch} (hl : l.stackTraces = false) {dp : Nat} {cr : Nat → List Value → xH → xO} (hself : ∀ t as P z, cr t as P = some z → Ct G l (dp + 9 - 1) (mt_X11_sends t) as P (fun r P1 => (r, P1) = z)) {n : Nat} {rec : Nat → List Value → xH → xO} (hrec : ∀ pc env P z, rec pc env P = some z → ∀ L st, lay_X11_sends pc env = some (L, st) → ∀ Q : xR → xH → Prop, Q z.1 z.2 → Wp G l (dp + 9) mX11_sends pc L st P Q) {a0 a1 a2 a3} {P : xH} {z : xR × xH} (h : b_X11_sends_0 n cr rec a0 a1 a2 a3 P = some z) {Q : xR → xH → Prop} (hQ : Q z.1 z.2) : Wp G l (dp + 9) mX11_sends 0 [some (.ref a0), some (.int a1), some (.int a2), some (.int a3), none] [] P Q := by
  unfold b_X11_sends_0 at h
  refine x_iload_n dX11_sends_0 rfl ?_
  refine x_aload_nr dX11_sends_1 rfl ?_
  obtain ⟨v1, e2, h⟩ := Option.bind_eq_some_iff.mp h
  refine k_rA e2 dX11_sends_2 f_X11_20 ?_
  refine x_bipush 10 dX11_sends_5 (by decide) ?_
  obtain ⟨v3, e4, h⟩ := Option.bind_eq_some_iff.mp h
  refine k_aI e4 dX11_sends_7 ?_
  refine x_icmp_ne 55 dX11_sends_8 (by decide) (fun q10 => ?_) (fun q10 => ?_)
  · rw [if_pos q10] at h
    refine x_iconst 0 dX11_sends_55 (by decide) ?_
    refine x_istore dX11_sends_56 (Nat.le_of_ble_eq_true rfl) ?_
    exact Wp.mask [true, true, true, true, true] (hrec 58 _ _ _ h _ _ rfl _ hQ)
  · rw [if_neg (fun z9 => z9 q10)] at h
    refine x_iload_n dX11_sends_11 rfl ?_
    refine x_aload_nr dX11_sends_12 rfl ?_
    obtain ⟨v5, e6, h⟩ := Option.bind_eq_some_iff.mp h
    refine k_rI e6 dX11_sends_13 f_X11_376 ?_
    refine x_icmp_gt 20 dX11_sends_16 (by decide) (fun q9 => ?_) (fun q9 => ?_)
    · rw [if_pos q9] at h
      refine x_aload_nr dX11_sends_20 rfl ?_
      refine x_iload_n dX11_sends_21 rfl ?_
      obtain ⟨P7, e8, h⟩ := Option.bind_eq_some_iff.mp h
      refine k_wI e8 dX11_sends_22 f_X11_376 (Or.inl (by decide)) rfl ?_
      refine x_iconst 0 dX11_sends_25 (by decide) ?_
      refine x_istore dX11_sends_26 (Nat.le_of_ble_eq_true rfl) ?_
      exact Wp.mask [true, true, true, true, true] (hrec 28 _ _ _ h _ _ rfl _ hQ)
    · rw [if_neg q9] at h
      cases h
      exact x_ret rfl dX11_sends_19 hQ
set_option maxHeartbeats 2000000 in
set_option maxRecDepth 20000 in
theorem t_X11_sends_28 {G : xG} {l : Launch} (hl : l.stackTraces = false) {dp : Nat} {cr : Nat → List Value → xH → xO} (hself : ∀ t as P z, cr t as P = some z → Ct G l (dp + 9 - 1) (mt_X11_sends t) as P (fun r P1 => (r, P1) = z)) {n : Nat} {rec : Nat → List Value → xH → xO} (hrec : ∀ pc env P z, rec pc env P = some z → ∀ L st, lay_X11_sends pc env = some (L, st) → ∀ Q : xR → xH → Prop, Q z.1 z.2 → Wp G l (dp + 9) mX11_sends pc L st P Q) {a0 a1 a2 a3 a4} {P : xH} {z : xR × xH} (h : b_X11_sends_28 n cr rec a0 a1 a2 a3 a4 P = some z) {Q : xR → xH → Prop} (hQ : Q z.1 z.2) : Wp G l (dp + 9) mX11_sends 28 [some (.ref a0), some (.int a1), some (.int a2), some (.int a3), some (.int a4)] [] P Q := by
  unfold b_X11_sends_28 at h
  refine x_iload dX11_sends_28 rfl ?_
  refine x_iload_n dX11_sends_30 rfl ?_
  refine x_icmp_ge 54 dX11_sends_31 (by decide) (fun q9 => ?_) (fun q9 => ?_)
  · rw [if_pos q9] at h
    cases h
    exact x_ret rfl dX11_sends_54 hQ
  · rw [if_neg q9] at h
    refine x_aload_nr dX11_sends_34 rfl ?_
    obtain ⟨v1, e2, h⟩ := Option.bind_eq_some_iff.mp h
    refine k_rA e2 dX11_sends_35 f_X11_61 ?_
    refine x_iload dX11_sends_38 rfl ?_
    refine x_aload_nr dX11_sends_40 rfl ?_
    obtain ⟨v3, e4, h⟩ := Option.bind_eq_some_iff.mp h
    refine k_rA e4 dX11_sends_41 f_X11_58 ?_
    refine x_iload dX11_sends_44 rfl ?_
    obtain ⟨v5, e6, h⟩ := Option.bind_eq_some_iff.mp h
    refine k_aI e6 dX11_sends_46 ?_
    obtain ⟨P7, e8, h⟩ := Option.bind_eq_some_iff.mp h
    refine k_sI e8 dX11_sends_47 ?_
    refine x_iinc (a4 + 1) dX11_sends_48 rfl (by rfl) ?_
    refine x_goto 28 dX11_sends_51 (by decide) ?_
    exact Wp.mask [true, true, true, true, true] (hrec 28 _ _ _ h _ _ rfl _ hQ)
set_option maxHeartbeats 2000000 in
set_option maxRecDepth 20000 in
theorem t_X11_sends_58 {G : xG} {l : Launch} (hl : l.stackTraces = false) {dp : Nat} {cr : Nat → List Value → xH → xO} (hself : ∀ t as P z, cr t as P = some z → Ct G l (dp + 9 - 1) (mt_X11_sends t) as P (fun r P1 => (r, P1) = z)) {n : Nat} {rec : Nat → List Value → xH → xO} (hrec : ∀ pc env P z, rec pc env P = some z → ∀ L st, lay_X11_sends pc env = some (L, st) → ∀ Q : xR → xH → Prop, Q z.1 z.2 → Wp G l (dp + 9) mX11_sends pc L st P Q) {a0 a1 a2 a3 a4} {P : xH} {z : xR × xH} (h : b_X11_sends_58 n cr rec a0 a1 a2 a3 a4 P = some z) {Q : xR → xH → Prop} (hQ : Q z.1 z.2) : Wp G l (dp + 9) mX11_sends 58 [some (.ref a0), some (.int a1), some (.int a2), some (.int a3), some (.int a4)] [] P Q := by
  unfold b_X11_sends_58 at h
  refine x_iload dX11_sends_58 rfl ?_
  refine x_aload_nr dX11_sends_60 rfl ?_
  obtain ⟨v1, e2, h⟩ := Option.bind_eq_some_iff.mp h
  refine k_rA e2 dX11_sends_61 f_X11_20 ?_
  refine x_bipush 9 dX11_sends_64 (by decide) ?_
  obtain ⟨v3, e4, h⟩ := Option.bind_eq_some_iff.mp h
  refine k_aI e4 dX11_sends_66 ?_
  refine x_icmp_ge 119 dX11_sends_67 (by decide) (fun q27 => ?_) (fun q27 => ?_)
  · rw [if_pos q27] at h
    refine x_aload_nr dX11_sends_119 rfl ?_
    obtain ⟨v5, e6, h⟩ := Option.bind_eq_some_iff.mp h
    refine k_rA e6 dX11_sends_120 f_X11_58 ?_
    refine x_iload_n dX11_sends_123 rfl ?_
    refine x_iconst (-1) dX11_sends_124 (by decide) ?_
    obtain ⟨P7, e8, h⟩ := Option.bind_eq_some_iff.mp h
    refine k_sI e8 dX11_sends_125 ?_
    refine x_aload_nr dX11_sends_126 rfl ?_
    refine x_iload_n dX11_sends_127 rfl ?_
    refine x_iconst 1 dX11_sends_128 (by decide) ?_
    refine x_iadd dX11_sends_129 ?_
    refine x_iload_n dX11_sends_130 rfl ?_
    refine x_iload_n dX11_sends_131 rfl ?_
    obtain ⟨_, e12, h⟩ := Option.bind_eq_some_iff.mp h
    obtain ⟨fse12, e12⟩ := kO_ok e12
    obtain ⟨r10, e11, h⟩ := Option.bind_eq_some_iff.mp h
    replace h := xU_ok h
    obtain ⟨P9, rfl, h⟩ := h
    refine x_callV (hself 0 _ _ _ e11) dX11_sends_132 cw_X11_sends wl_X11_379 wi_X11_sends wse_X11_sends rfl e12 (by decide) rfl (by omega) (by decide) rfl (Nat.le_of_ble_eq_true rfl) rfl (fun v9 P9 hq9 => ?_) (fun i9 P9 hq9 => by cases hq9)
    cases hq9
    cases h
    exact x_ret rfl dX11_sends_135 hQ
  · rw [if_neg q27] at h
    refine x_iload_n dX11_sends_70 rfl ?_
    refine x_iload dX11_sends_71 rfl ?_
    refine x_ishr dX11_sends_73 ?_
    refine x_iconst 1 dX11_sends_74 (by decide) ?_
    refine x_iand dX11_sends_75 ?_
    refine x_iconst 1 dX11_sends_76 (by decide) ?_
    refine x_icmp_ne 83 dX11_sends_77 (by decide) (fun q26 => ?_) (fun q26 => ?_)
    · rw [if_pos q26] at h
      refine x_aload_nr dX11_sends_83 rfl ?_
      obtain ⟨v13, e14, h⟩ := Option.bind_eq_some_iff.mp h
      refine k_rA e14 dX11_sends_84 f_X11_58 ?_
      refine x_iload_n dX11_sends_87 rfl ?_
      refine x_iload dX11_sends_88 rfl ?_
      obtain ⟨P15, e16, h⟩ := Option.bind_eq_some_iff.mp h
      refine k_sI e16 dX11_sends_90 ?_
      refine x_aload_nr dX11_sends_91 rfl ?_
      refine x_iload_n dX11_sends_92 rfl ?_
      refine x_iconst 1 dX11_sends_93 (by decide) ?_
      refine x_iadd dX11_sends_94 ?_
      refine x_iload_n dX11_sends_95 rfl ?_
      refine x_iconst 1 dX11_sends_96 (by decide) ?_
      refine x_iload dX11_sends_97 rfl ?_
      refine x_ishl dX11_sends_99 ?_
      refine x_ior dX11_sends_100 ?_
      refine x_iload_n dX11_sends_101 rfl ?_
      refine x_aload_nr dX11_sends_102 rfl ?_
      refine x_iload_n dX11_sends_103 rfl ?_
      refine x_iload dX11_sends_104 rfl ?_
      obtain ⟨_, e21, h⟩ := Option.bind_eq_some_iff.mp h
      obtain ⟨fse21, e21⟩ := kO_ok e21
      obtain ⟨r18, e19, h⟩ := Option.bind_eq_some_iff.mp h
      replace h := xI_ok h
      obtain ⟨v20, P17, rfl, h⟩ := h
      refine x_callV (c_X11_savedBy hl e19) dX11_sends_106 cw_X11_savedBy wl_X11_373 wi_X11_savedBy wse_X11_savedBy rfl e21 (by decide) rfl (by omega) (by decide) rfl (Nat.le_of_ble_eq_true rfl) rfl (fun v9 P9 hq9 => ?_) (fun i9 P9 hq9 => by cases hq9)
      cases hq9
      refine x_iadd dX11_sends_109 ?_
      obtain ⟨_, e25, h⟩ := Option.bind_eq_some_iff.mp h
      obtain ⟨fse25, e25⟩ := kO_ok e25
      obtain ⟨r23, e24, h⟩ := Option.bind_eq_some_iff.mp h
      replace h := xU_ok h
      obtain ⟨P22, rfl, h⟩ := h
      refine x_callV (hself 0 _ _ _ e24) dX11_sends_110 cw_X11_sends wl_X11_379 wi_X11_sends wse_X11_sends rfl e25 (by decide) rfl (by omega) (by decide) rfl (Nat.le_of_ble_eq_true rfl) rfl (fun v9 P9 hq9 => ?_) (fun i9 P9 hq9 => by cases hq9)
      cases hq9
      refine x_iinc (a4 + 1) dX11_sends_113 rfl (by rfl) ?_
      refine x_goto 58 dX11_sends_116 (by decide) ?_
      exact Wp.mask [true, true, true, true, true] (hrec 58 _ _ _ h _ _ rfl _ hQ)
    · rw [if_neg (fun z9 => z9 q26)] at h
      refine x_goto 113 dX11_sends_80 (by decide) ?_
      refine x_iinc (a4 + 1) dX11_sends_113 rfl (by rfl) ?_
      refine x_goto 58 dX11_sends_116 (by decide) ?_
      exact Wp.mask [true, true, true, true, true] (hrec 58 _ _ _ h _ _ rfl _ hQ)
theorem s_X11_sends {G : xG} {l : Launch} (hl : l.stackTraces = false) {dp : Nat} {cr : Nat → List Value → xH → xO} (hself : ∀ t as P z, cr t as P = some z → Ct G l (dp + 9 - 1) (mt_X11_sends t) as P (fun r P1 => (r, P1) = z)) : ∀ n pc env P z, g_X11_sends cr n pc env P = some z → ∀ L st, lay_X11_sends pc env = some (L, st) → ∀ Q : xR → xH → Prop, Q z.1 z.2 → Wp G l (dp + 9) mX11_sends pc L st P Q := by
  intro n
  induction n with
  | zero => intro pc env P z h; cases h
  | succ n ih =>
    intro pc env P z h L st hlay Q hQ
    unfold g_X11_sends at h
    split at h
    · cases hlay
      exact t_X11_sends_0 hl hself ih h hQ
    · cases hlay
      exact t_X11_sends_28 hl hself ih h hQ
    · cases hlay
      exact t_X11_sends_58 hl hself ih h hQ
    · cases h
theorem cg_X11_sends {G : xG} {l : Launch} (hl : l.stackTraces = false) {dp : Nat} {cr : Nat → List Value → xH → xO} (hself : ∀ t as P z, cr t as P = some z → Ct G l (dp + 9 - 1) (mt_X11_sends t) as P (fun r P1 => (r, P1) = z)) {n : Nat} {as : List Value} {P : xH} {z : xR × xH} (h : g_X11_sends cr n 0 as P = some z) : Ct G l (dp + 9) mX11_sends as P (fun r P1 => (r, P1) = z) := by
  cases n with
  | zero => cases h
  | succ n =>
    unfold g_X11_sends at h
    split at h
    · exact Ct.of hl (by decide +kernel) wc_X11_sends (Nat.le_of_ble_eq_true rfl) (t_X11_sends_0 hl hself (s_X11_sends hl hself _) h rfl)
    all_goals first | (cases h; done) | (rename_i q9 _; exact absurd q9 (by decide)) | (rename_i q9; exact absurd q9 (by decide)) | contradiction
def F_X11_sends (n : Nat) : Nat → Nat → List Value → xH → xO
  | 0 => fun _ _ _ => none
  | dp + 1 => fun t as P => match t with
    | 0 => g_X11_sends (F_X11_sends n dp) n 0 as P
    | _ => none
theorem cF_X11_sends {G : xG} {l : Launch} (hl : l.stackTraces = false) (n : Nat) : ∀ dp t as P z, F_X11_sends n dp t as P = some z → Ct G l (dp + 9) (mt_X11_sends t) as P (fun r P1 => (r, P1) = z) := by
  intro dp
  induction dp with
  | zero => intro t as P z h; cases h
  | succ dp ih =>
    intro t as P z h
    unfold F_X11_sends at h
    split at h
    · exact cg_X11_sends (dp := dp + 1) hl (fun t as P z h9 => (show dp + 1 + 9 - 1 = dp + 9 by omega) ▸ ih t as P z h9) h
    · cases h
def f_X11_sends (n pc : Nat) (as : List Value) (P : xH) : xO := if pc = 0 then F_X11_sends n 30 0 as P else none
theorem c_X11_sends {G : xG} {l : Launch} (hl : l.stackTraces = false) {n : Nat} {as : List Value} {P : xH} {z : xR × xH} (h : f_X11_sends n 0 as P = some z) : Ct G l 39 mX11_sends as P (fun r P1 => (r, P1) = z) := cF_X11_sends hl n 30 0 as P z h
/-! QuakeNetModel.send(I)I -/
def b_X11_send_0 (n : Nat) (rec : Nat → List Value → xH → xO) (a0 : Nat) (a1 : Int32) (P : xH) : xO :=
  (wV P a0 11 0 (.int 0)).bind fun P1 =>
  if a1 = ((-1)) then
    rec 24 [.ref a0, .int a1, .ref a0, .int 0] P1
  else
    (kO P1 a0 11).bind fun _ =>
    (f_X11_noGang n 0 [.ref a0, .int a1] P1).bind fun r4 => xI r4 fun v6 P3 =>
    if v6 = 0 then
      rec 24 [.ref a0, .int a1, .ref a0, .int 0] P3
    else
      rec 24 [.ref a0, .int a1, .ref a0, .int 1] P3
def b_X11_send_24 (n : Nat) (rec : Nat → List Value → xH → xO) (a0 : Nat) (a1 : Int32) (s0 : Nat) (s1 : Int32) (P : xH) : xO :=
  (kO P s0 11).bind fun _ =>
  (f_X11_throwsIf n 0 [.ref s0, .int s1, .int 1] P).bind fun r2 => xI r2 fun v4 P1 =>
  if v4 = 0 then
    (wV P1 a0 11 29 (.int ((-1)))).bind fun P6 =>
    (kO P6 a0 11).bind fun _ =>
    (f_X11_sends n 0 [.ref a0, .int 0, .int 0, .int 0] P6).bind fun r9 => xU r9 fun P8 =>
    if ¬ a1 = ((-1)) then
      (rA P8 a0 11 28).bind fun v12 =>
      (aI P8 v12 a1).bind fun v14 =>
      some (.inl (some (.int v14)), P8)
    else
      (rI P8 a0 11 29).bind fun v16 =>
      some (.inl (some (.int v16)), P8)
  else
    some (.inl (some (.int 0)), P1)
def lay_X11_send : Nat → List Value → Option (xL × List Value)
  | 0, [a0, a1] => some ([some a0, some a1], [])
  | 24, [a0, a1, s0, s1] => some ([some a0, some a1], [s1, s0])
  | _, _ => none
def f_X11_send : Nat → Nat → List Value → xH → xO
  | 0 => fun _ _ _ => none
  | n + 1 => fun pc env P => match pc, env with
    | 0, [.ref a0, .int a1] => b_X11_send_0 n (f_X11_send n) a0 a1 P
    | 24, [.ref a0, .int a1, .ref s0, .int s1] => b_X11_send_24 n (f_X11_send n) a0 a1 s0 s1 P
    | _, _ => none
set_option maxHeartbeats 2000000 in
set_option maxRecDepth 20000 in
theorem t_X11_send_0 {G : xG} {l : Launch} (hl : l.stackTraces = false) {n : Nat} {rec : Nat → List Value → xH → xO} (hrec : ∀ pc env P z, rec pc env P = some z → ∀ L st, lay_X11_send pc env = some (L, st) → ∀ Q : xR → xH → Prop, Q z.1 z.2 → Wp G l 40 mX11_send pc L st P Q) {a0 a1} {P : xH} {z : xR × xH} (h : b_X11_send_0 n rec a0 a1 P = some z) {Q : xR → xH → Prop} (hQ : Q z.1 z.2) : Wp G l 40 mX11_send 0 [some (.ref a0), some (.int a1)] [] P Q := by
  unfold b_X11_send_0 at h
  refine x_aload_nr dX11_send_0 rfl ?_
  refine x_iconst 0 dX11_send_1 (by decide) ?_
  obtain ⟨P1, e2, h⟩ := Option.bind_eq_some_iff.mp h
  refine k_wI e2 dX11_send_2 f_X11_3 (Or.inl (by decide)) rfl ?_
  refine x_aload_nr dX11_send_5 rfl ?_
  refine x_iload_n dX11_send_6 rfl ?_
  refine x_iconst (-1) dX11_send_7 (by decide) ?_
  refine x_icmp_eq 23 dX11_send_8 (by decide) (fun q9 => ?_) (fun q9 => ?_)
  · rw [if_pos q9] at h
    refine x_iconst 0 dX11_send_23 (by decide) ?_
    exact Wp.mask [true, true] (hrec 24 _ _ _ h _ _ rfl _ hQ)
  · rw [if_neg q9] at h
    refine x_aload_nr dX11_send_11 rfl ?_
    refine x_iload_n dX11_send_12 rfl ?_
    obtain ⟨_, e7, h⟩ := Option.bind_eq_some_iff.mp h
    obtain ⟨fse7, e7⟩ := kO_ok e7
    obtain ⟨r4, e5, h⟩ := Option.bind_eq_some_iff.mp h
    replace h := xI_ok h
    obtain ⟨v6, P3, rfl, h⟩ := h
    refine x_callV (c_X11_noGang hl e5) dX11_send_13 cw_X11_noGang wl_X11_370 wi_X11_noGang wse_X11_noGang rfl e7 (by decide) rfl (by omega) (by decide) rfl (Nat.le_of_ble_eq_true rfl) rfl (fun v9 P9 hq9 => ?_) (fun i9 P9 hq9 => by cases hq9)
    cases hq9
    refine x_if_eq 23 dX11_send_16 (by decide) (fun q8 => ?_) (fun q8 => ?_)
    · rw [if_pos q8] at h
      refine x_iconst 0 dX11_send_23 (by decide) ?_
      exact Wp.mask [true, true] (hrec 24 _ _ _ h _ _ rfl _ hQ)
    · rw [if_neg q8] at h
      refine x_iconst 1 dX11_send_19 (by decide) ?_
      refine x_goto 24 dX11_send_20 (by decide) ?_
      exact Wp.mask [true, true] (hrec 24 _ _ _ h _ _ rfl _ hQ)
set_option maxHeartbeats 2000000 in
set_option maxRecDepth 20000 in
theorem t_X11_send_24 {G : xG} {l : Launch} (hl : l.stackTraces = false) {n : Nat} {rec : Nat → List Value → xH → xO} (hrec : ∀ pc env P z, rec pc env P = some z → ∀ L st, lay_X11_send pc env = some (L, st) → ∀ Q : xR → xH → Prop, Q z.1 z.2 → Wp G l 40 mX11_send pc L st P Q) {a0 a1 s0 s1} {P : xH} {z : xR × xH} (h : b_X11_send_24 n rec a0 a1 s0 s1 P = some z) {Q : xR → xH → Prop} (hQ : Q z.1 z.2) : Wp G l 40 mX11_send 24 [some (.ref a0), some (.int a1)] [.int s1, .ref s0] P Q := by
  unfold b_X11_send_24 at h
  refine x_iconst 1 dX11_send_24 (by decide) ?_
  obtain ⟨_, e5, h⟩ := Option.bind_eq_some_iff.mp h
  obtain ⟨fse5, e5⟩ := kO_ok e5
  obtain ⟨r2, e3, h⟩ := Option.bind_eq_some_iff.mp h
  replace h := xI_ok h
  obtain ⟨v4, P1, rfl, h⟩ := h
  refine x_callV (c_X11_throwsIf hl e3) dX11_send_25 cw_X11_throwsIf wl_X11_93 wi_X11_throwsIf wse_X11_throwsIf rfl e5 (by decide) rfl (by omega) (by decide) rfl (Nat.le_of_ble_eq_true rfl) rfl (fun v9 P9 hq9 => ?_) (fun i9 P9 hq9 => by cases hq9)
  cases hq9
  refine x_if_eq 33 dX11_send_28 (by decide) (fun q19 => ?_) (fun q19 => ?_)
  · rw [if_pos q19] at h
    refine x_aload_nr dX11_send_33 rfl ?_
    refine x_iconst (-1) dX11_send_34 (by decide) ?_
    obtain ⟨P6, e7, h⟩ := Option.bind_eq_some_iff.mp h
    refine k_wI e7 dX11_send_35 f_X11_376 (Or.inl (by decide)) rfl ?_
    refine x_aload_nr dX11_send_38 rfl ?_
    refine x_iconst 0 dX11_send_39 (by decide) ?_
    refine x_iconst 0 dX11_send_40 (by decide) ?_
    refine x_iconst 0 dX11_send_41 (by decide) ?_
    obtain ⟨_, e11, h⟩ := Option.bind_eq_some_iff.mp h
    obtain ⟨fse11, e11⟩ := kO_ok e11
    obtain ⟨r9, e10, h⟩ := Option.bind_eq_some_iff.mp h
    replace h := xU_ok h
    obtain ⟨P8, rfl, h⟩ := h
    refine x_callV (c_X11_sends hl e10) dX11_send_42 cw_X11_sends wl_X11_379 wi_X11_sends wse_X11_sends rfl e11 (by decide) rfl (by omega) (by decide) rfl (Nat.le_of_ble_eq_true rfl) rfl (fun v9 P9 hq9 => ?_) (fun i9 P9 hq9 => by cases hq9)
    cases hq9
    refine x_iload_n dX11_send_45 rfl ?_
    refine x_iconst (-1) dX11_send_46 (by decide) ?_
    refine x_icmp_ne 57 dX11_send_47 (by decide) (fun q18 => ?_) (fun q18 => ?_)
    · rw [if_pos q18] at h
      refine x_aload_nr dX11_send_57 rfl ?_
      obtain ⟨v12, e13, h⟩ := Option.bind_eq_some_iff.mp h
      refine k_rA e13 dX11_send_58 f_X11_61 ?_
      refine x_iload_n dX11_send_61 rfl ?_
      obtain ⟨v14, e15, h⟩ := Option.bind_eq_some_iff.mp h
      refine k_aI e15 dX11_send_62 ?_
      cases h
      exact x_iret .int rfl rfl dX11_send_63 hQ
    · rw [if_neg (fun z9 => z9 q18)] at h
      refine x_aload_nr dX11_send_50 rfl ?_
      obtain ⟨v16, e17, h⟩ := Option.bind_eq_some_iff.mp h
      refine k_rI e17 dX11_send_51 f_X11_376 ?_
      refine x_goto 63 dX11_send_54 (by decide) ?_
      cases h
      exact x_iret .int rfl rfl dX11_send_63 hQ
  · rw [if_neg q19] at h
    refine x_iconst 0 dX11_send_31 (by decide) ?_
    cases h
    exact x_iret .int rfl rfl dX11_send_32 hQ
theorem s_X11_send {G : xG} {l : Launch} (hl : l.stackTraces = false) : ∀ n pc env P z, f_X11_send n pc env P = some z → ∀ L st, lay_X11_send pc env = some (L, st) → ∀ Q : xR → xH → Prop, Q z.1 z.2 → Wp G l 40 mX11_send pc L st P Q := by
  intro n
  induction n with
  | zero => intro pc env P z h; cases h
  | succ n ih =>
    intro pc env P z h L st hlay Q hQ
    unfold f_X11_send at h
    split at h
    · cases hlay
      exact t_X11_send_0 hl ih h hQ
    · cases hlay
      exact t_X11_send_24 hl ih h hQ
    · cases h
theorem c_X11_send {G : xG} {l : Launch} (hl : l.stackTraces = false) {n : Nat} {as : List Value} {P : xH} {z : xR × xH} (h : f_X11_send n 0 as P = some z) : Ct G l 40 mX11_send as P (fun r P1 => (r, P1) = z) := by
  cases n with
  | zero => cases h
  | succ n =>
    unfold f_X11_send at h
    split at h
    · exact Ct.of hl (by decide +kernel) wc_X11_send (Nat.le_of_ble_eq_true rfl) (t_X11_send_0 hl (s_X11_send hl _) h rfl)
    all_goals first | (cases h; done) | (rename_i q9 _; exact absurd q9 (by decide)) | (rename_i q9; exact absurd q9 (by decide)) | contradiction
/-! QuakeNetModel.hide(IZ)Z -/
def b_X11_hide_0 (n : Nat) (rec : Nat → List Value → xH → xO) (a0 : Nat) (a1 : Int32) (a2 : Int32) (P : xH) : xO :=
  (wV P a0 11 0 (.int 0)).bind fun P1 =>
  (f_X11_noPerson n 0 [.int a1] P1).bind fun r4 => xI r4 fun v6 P3 =>
  (kO P3 a0 11).bind fun _ =>
  (f_X11_throwsIf n 0 [.ref a0, .int v6, .int 1] P3).bind fun r8 => xI r8 fun v10 P7 =>
  if ¬ v10 = 0 then
    some (.inl (some (.int 0)), P7)
  else
    (rA P7 a0 11 3).bind fun v12 =>
    (aI P7 v12 ((1120 + a1))).bind fun v14 =>
    if a2 = 0 then
      rec 36 [.ref a0, .int a1, .int a2, .int v14, .int 0] P7
    else
      rec 36 [.ref a0, .int a1, .int a2, .int v14, .int 1] P7
def b_X11_hide_36 (n : Nat) (rec : Nat → List Value → xH → xO) (a0 : Nat) (a1 : Int32) (a2 : Int32) (s0 : Int32) (s1 : Int32) (P : xH) : xO :=
  if ¬ s0 = s1 then
    (rA P a0 11 3).bind fun v1 =>
    if a2 = 0 then
      (sI P v1 ((1120 + a1)) 0).bind fun P3 =>
      some (.inl (some (.int 1)), P3)
    else
      (sI P v1 ((1120 + a1)) 1).bind fun P5 =>
      some (.inl (some (.int 1)), P5)
  else
    some (.inl (some (.int 0)), P)
def lay_X11_hide : Nat → List Value → Option (xL × List Value)
  | 0, [a0, a1, a2] => some ([some a0, some a1, some a2], [])
  | 36, [a0, a1, a2, s0, s1] => some ([some a0, some a1, some a2], [s1, s0])
  | _, _ => none
def f_X11_hide : Nat → Nat → List Value → xH → xO
  | 0 => fun _ _ _ => none
  | n + 1 => fun pc env P => match pc, env with
    | 0, [.ref a0, .int a1, .int a2] => b_X11_hide_0 n (f_X11_hide n) a0 a1 a2 P
    | 36, [.ref a0, .int a1, .int a2, .int s0, .int s1] => b_X11_hide_36 n (f_X11_hide n) a0 a1 a2 s0 s1 P
    | _, _ => none
set_option maxHeartbeats 2000000 in
set_option maxRecDepth 20000 in
theorem t_X11_hide_0 {G : xG} {l : Launch} (hl : l.stackTraces = false) {n : Nat} {rec : Nat → List Value → xH → xO} (hrec : ∀ pc env P z, rec pc env P = some z → ∀ L st, lay_X11_hide pc env = some (L, st) → ∀ Q : xR → xH → Prop, Q z.1 z.2 → Wp G l 5 mX11_hide pc L st P Q) {a0 a1 a2} {P : xH} {z : xR × xH} (h : b_X11_hide_0 n rec a0 a1 a2 P = some z) {Q : xR → xH → Prop} (hQ : Q z.1 z.2) : Wp G l 5 mX11_hide 0 [some (.ref a0), some (.int a1), some (.int a2)] [] P Q := by
  unfold b_X11_hide_0 at h
  refine x_aload_nr dX11_hide_0 rfl ?_
  refine x_iconst 0 dX11_hide_1 (by decide) ?_
  obtain ⟨P1, e2, h⟩ := Option.bind_eq_some_iff.mp h
  refine k_wI e2 dX11_hide_2 f_X11_3 (Or.inl (by decide)) rfl ?_
  refine x_aload_nr dX11_hide_5 rfl ?_
  refine x_iload_n dX11_hide_6 rfl ?_
  obtain ⟨r4, e5, h⟩ := Option.bind_eq_some_iff.mp h
  replace h := xI_ok h
  obtain ⟨v6, P3, rfl, h⟩ := h
  refine x_callS (c_X11_noPerson hl e5) dX11_hide_7 cw_X11_noPerson wl_X11_312 ws_X11_noPerson rfl (by omega) (by decide) rfl (Nat.le_of_ble_eq_true rfl) rfl (fun v9 P9 hq9 => ?_) (fun i9 P9 hq9 => by cases hq9)
  cases hq9
  refine x_iconst 1 dX11_hide_10 (by decide) ?_
  obtain ⟨_, e11, h⟩ := Option.bind_eq_some_iff.mp h
  obtain ⟨fse11, e11⟩ := kO_ok e11
  obtain ⟨r8, e9, h⟩ := Option.bind_eq_some_iff.mp h
  replace h := xI_ok h
  obtain ⟨v10, P7, rfl, h⟩ := h
  refine x_callV (c_X11_throwsIf hl e9) dX11_hide_11 cw_X11_throwsIf wl_X11_93 wi_X11_throwsIf wse_X11_throwsIf rfl e11 (by decide) rfl (by omega) (by decide) rfl (Nat.le_of_ble_eq_true rfl) rfl (fun v9 P9 hq9 => ?_) (fun i9 P9 hq9 => by cases hq9)
  cases hq9
  refine x_if_ne 39 dX11_hide_14 (by decide) (fun q17 => ?_) (fun q17 => ?_)
  · rw [if_pos q17] at h
    refine x_iconst 0 dX11_hide_39 (by decide) ?_
    cases h
    exact x_iret .boolean rfl rfl dX11_hide_40 hQ
  · rw [if_neg (fun z9 => z9 q17)] at h
    refine x_aload_nr dX11_hide_17 rfl ?_
    obtain ⟨v12, e13, h⟩ := Option.bind_eq_some_iff.mp h
    refine k_rA e13 dX11_hide_18 f_X11_20 ?_
    refine x_sipush 1120 dX11_hide_21 (by decide) ?_
    refine x_iload_n dX11_hide_24 rfl ?_
    refine x_iadd dX11_hide_25 ?_
    obtain ⟨v14, e15, h⟩ := Option.bind_eq_some_iff.mp h
    refine k_aI e15 dX11_hide_26 ?_
    refine x_iload_n dX11_hide_27 rfl ?_
    refine x_if_eq 35 dX11_hide_28 (by decide) (fun q16 => ?_) (fun q16 => ?_)
    · rw [if_pos q16] at h
      refine x_iconst 0 dX11_hide_35 (by decide) ?_
      exact Wp.mask [true, true, true] (hrec 36 _ _ _ h _ _ rfl _ hQ)
    · rw [if_neg q16] at h
      refine x_iconst 1 dX11_hide_31 (by decide) ?_
      refine x_goto 36 dX11_hide_32 (by decide) ?_
      exact Wp.mask [true, true, true] (hrec 36 _ _ _ h _ _ rfl _ hQ)
set_option maxHeartbeats 2000000 in
set_option maxRecDepth 20000 in
theorem t_X11_hide_36 {G : xG} {l : Launch} (hl : l.stackTraces = false) {n : Nat} {rec : Nat → List Value → xH → xO} (hrec : ∀ pc env P z, rec pc env P = some z → ∀ L st, lay_X11_hide pc env = some (L, st) → ∀ Q : xR → xH → Prop, Q z.1 z.2 → Wp G l 5 mX11_hide pc L st P Q) {a0 a1 a2 s0 s1} {P : xH} {z : xR × xH} (h : b_X11_hide_36 n rec a0 a1 a2 s0 s1 P = some z) {Q : xR → xH → Prop} (hQ : Q z.1 z.2) : Wp G l 5 mX11_hide 36 [some (.ref a0), some (.int a1), some (.int a2)] [.int s1, .int s0] P Q := by
  unfold b_X11_hide_36 at h
  refine x_icmp_ne 41 dX11_hide_36 (by decide) (fun q8 => ?_) (fun q8 => ?_)
  · rw [if_pos q8] at h
    refine x_aload_nr dX11_hide_41 rfl ?_
    obtain ⟨v1, e2, h⟩ := Option.bind_eq_some_iff.mp h
    refine k_rA e2 dX11_hide_42 f_X11_20 ?_
    refine x_sipush 1120 dX11_hide_45 (by decide) ?_
    refine x_iload_n dX11_hide_48 rfl ?_
    refine x_iadd dX11_hide_49 ?_
    refine x_iload_n dX11_hide_50 rfl ?_
    refine x_if_eq 58 dX11_hide_51 (by decide) (fun q7 => ?_) (fun q7 => ?_)
    · rw [if_pos q7] at h
      refine x_iconst 0 dX11_hide_58 (by decide) ?_
      obtain ⟨P3, e4, h⟩ := Option.bind_eq_some_iff.mp h
      refine k_sI e4 dX11_hide_59 ?_
      refine x_iconst 1 dX11_hide_60 (by decide) ?_
      cases h
      exact x_iret .boolean rfl rfl dX11_hide_61 hQ
    · rw [if_neg q7] at h
      refine x_iconst 1 dX11_hide_54 (by decide) ?_
      refine x_goto 59 dX11_hide_55 (by decide) ?_
      obtain ⟨P5, e6, h⟩ := Option.bind_eq_some_iff.mp h
      refine k_sI e6 dX11_hide_59 ?_
      refine x_iconst 1 dX11_hide_60 (by decide) ?_
      cases h
      exact x_iret .boolean rfl rfl dX11_hide_61 hQ
  · rw [if_neg (fun z9 => z9 q8)] at h
    refine x_iconst 0 dX11_hide_39 (by decide) ?_
    cases h
    exact x_iret .boolean rfl rfl dX11_hide_40 hQ
theorem s_X11_hide {G : xG} {l : Launch} (hl : l.stackTraces = false) : ∀ n pc env P z, f_X11_hide n pc env P = some z → ∀ L st, lay_X11_hide pc env = some (L, st) → ∀ Q : xR → xH → Prop, Q z.1 z.2 → Wp G l 5 mX11_hide pc L st P Q := by
  intro n
  induction n with
  | zero => intro pc env P z h; cases h
  | succ n ih =>
    intro pc env P z h L st hlay Q hQ
    unfold f_X11_hide at h
    split at h
    · cases hlay
      exact t_X11_hide_0 hl ih h hQ
    · cases hlay
      exact t_X11_hide_36 hl ih h hQ
    · cases h
theorem c_X11_hide {G : xG} {l : Launch} (hl : l.stackTraces = false) {n : Nat} {as : List Value} {P : xH} {z : xR × xH} (h : f_X11_hide n 0 as P = some z) : Ct G l 5 mX11_hide as P (fun r P1 => (r, P1) = z) := by
  cases n with
  | zero => cases h
  | succ n =>
    unfold f_X11_hide at h
    split at h
    · exact Ct.of hl (by decide +kernel) wc_X11_hide (Nat.le_of_ble_eq_true rfl) (t_X11_hide_0 hl (s_X11_hide hl _) h rfl)
    all_goals first | (cases h; done) | (rename_i q9 _; exact absurd q9 (by decide)) | (rename_i q9; exact absurd q9 (by decide)) | contradiction
/-! QuakeNetModel.ask(IZ)I -/
def b_X11_ask_0 (n : Nat) (rec : Nat → List Value → xH → xO) (a0 : Nat) (a1 : Int32) (a2 : Int32) (P : xH) : xO :=
  (wV P a0 11 0 (.int 0)).bind fun P1 =>
  (f_X11_noPerson n 0 [.int a1] P1).bind fun r4 => xI r4 fun v6 P3 =>
  (kO P3 a0 11).bind fun _ =>
  (f_X11_throwsIf n 0 [.ref a0, .int v6, .int 1] P3).bind fun r8 => xI r8 fun v10 P7 =>
  if v10 = 0 then
    (kO P7 a0 11).bind fun _ =>
    (f_X11_tick n 0 [.ref a0] P7).bind fun r13 => xI r13 fun v15 P12 =>
    (kO P12 a0 11).bind fun _ =>
    (f_X11_tick n 0 [.ref a0] P12).bind fun r18 => xI r18 fun v20 P17 =>
    (kO P17 a0 11).bind fun _ =>
    (f_X11_couldBe n 0 [.ref a0, .int a1, .int v15, .int v20] P17).bind fun r23 => xI r23 fun v25 P22 =>
    (rI P22 a0 11 22).bind fun v27 =>
    if ¬ v27 = 0 then
      rec 45 [.ref a0, .int a1, .int a2, .int v25, .int 0] P22
    else
      some (.inl (some (.int 0)), P22)
  else
    some (.inl (some (.int 0)), P7)
def b_X11_ask_45 (n : Nat) (rec : Nat → List Value → xH → xO) (a0 : Nat) (a1 : Int32) (a2 : Int32) (a3 : Int32) (a4 : Int32) (P : xH) : xO :=
  if 7 ≤ a4 then
    rec 84 [.ref a0, .int a1, .int a2, .int a3, .int 0] P
  else
    (rA P a0 11 17).bind fun v1 =>
    if ¬ a4 = 6 then
      (sZ P v1 a4 0).bind fun P3 =>
      rec 45 [.ref a0, .int a1, .int a2, .int a3, .int ((a4 + 1))] P3
    else
      if a2 = 0 then
        (sZ P v1 a4 0).bind fun P5 =>
        rec 45 [.ref a0, .int a1, .int a2, .int a3, .int ((a4 + 1))] P5
      else
        (sZ P v1 a4 1).bind fun P7 =>
        rec 45 [.ref a0, .int a1, .int a2, .int a3, .int ((a4 + 1))] P7
def b_X11_ask_84 (n : Nat) (rec : Nat → List Value → xH → xO) (a0 : Nat) (a1 : Int32) (a2 : Int32) (a3 : Int32) (a4 : Int32) (P : xH) : xO :=
  if 5 ≤ a4 then
    (rA P a0 11 3).bind fun v1 =>
    (aI P v1 ((1120 + a1))).bind fun v3 =>
    if ¬ v3 = 0 then
      rec 127 [.ref a0, .int a1, .int a2, .int a3, .int 0, .int 0] P
    else
      rec 127 [.ref a0, .int a1, .int a2, .int a3, .int 1, .int 0] P
  else
    (rA P a0 11 18).bind fun v6 =>
    (sI P v6 a4 0).bind fun P8 =>
    rec 84 [.ref a0, .int a1, .int a2, .int a3, .int ((a4 + 1))] P8
def b_X11_ask_127 (n : Nat) (rec : Nat → List Value → xH → xO) (a0 : Nat) (a1 : Int32) (a2 : Int32) (a3 : Int32) (a4 : Int32) (a5 : Int32) (P : xH) : xO :=
  (kO P a0 11).bind fun _ =>
  (f_X11_lines n 0 [.ref a0] P).bind fun r2 => xI r2 fun v4 P1 =>
  if v4 ≤ a5 then
    if a4 = 0 then
      some (.inl (some (.int 0)), P1)
    else
      some (.inl (some (.int a3)), P1)
  else
    if ¬ a4 = 0 then
      rec 127 [.ref a0, .int a1, .int a2, .int a3, .int 1, .int ((a5 + 1))] P1
    else
      (rA P1 a0 11 3).bind fun v7 =>
      (rI P1 a0 11 6).bind fun v9 =>
      (f_X11_lineAt n 0 [.int v9, .int a5] P1).bind fun r12 => xI r12 fun v14 P11 =>
      (aI P11 v7 v14).bind fun v15 =>
      if ¬ v15 = 3 then
        rec 127 [.ref a0, .int a1, .int a2, .int a3, .int 0, .int ((a5 + 1))] P11
      else
        (kO P11 a0 11).bind fun _ =>
        (f_X11_holds n 0 [.ref a0, .int a5] P11).bind fun r18 => xI r18 fun v20 P17 =>
        if v20 = 0 then
          rec 127 [.ref a0, .int a1, .int a2, .int a3, .int 0, .int ((a5 + 1))] P17
        else
          rec 127 [.ref a0, .int a1, .int a2, .int a3, .int 1, .int ((a5 + 1))] P17
def lay_X11_ask : Nat → List Value → Option (xL × List Value)
  | 0, [a0, a1, a2] => some ([some a0, some a1, some a2, none, none, none], [])
  | 45, [a0, a1, a2, a3, a4] => some ([some a0, some a1, some a2, some a3, some a4, none], [])
  | 84, [a0, a1, a2, a3, a4] => some ([some a0, some a1, some a2, some a3, some a4, none], [])
  | 127, [a0, a1, a2, a3, a4, a5] => some ([some a0, some a1, some a2, some a3, some a4, some a5], [])
  | _, _ => none
def f_X11_ask : Nat → Nat → List Value → xH → xO
  | 0 => fun _ _ _ => none
  | n + 1 => fun pc env P => match pc, env with
    | 0, [.ref a0, .int a1, .int a2] => b_X11_ask_0 n (f_X11_ask n) a0 a1 a2 P
    | 45, [.ref a0, .int a1, .int a2, .int a3, .int a4] => b_X11_ask_45 n (f_X11_ask n) a0 a1 a2 a3 a4 P
    | 84, [.ref a0, .int a1, .int a2, .int a3, .int a4] => b_X11_ask_84 n (f_X11_ask n) a0 a1 a2 a3 a4 P
    | 127, [.ref a0, .int a1, .int a2, .int a3, .int a4, .int a5] => b_X11_ask_127 n (f_X11_ask n) a0 a1 a2 a3 a4 a5 P
    | _, _ => none
set_option maxHeartbeats 2000000 in
set_option maxRecDepth 20000 in
theorem t_X11_ask_0 {G : xG} {l : Launch} (hl : l.stackTraces = false) {n : Nat} {rec : Nat → List Value → xH → xO} (hrec : ∀ pc env P z, rec pc env P = some z → ∀ L st, lay_X11_ask pc env = some (L, st) → ∀ Q : xR → xH → Prop, Q z.1 z.2 → Wp G l 9 mX11_ask pc L st P Q) {a0 a1 a2} {P : xH} {z : xR × xH} (h : b_X11_ask_0 n rec a0 a1 a2 P = some z) {Q : xR → xH → Prop} (hQ : Q z.1 z.2) : Wp G l 9 mX11_ask 0 [some (.ref a0), some (.int a1), some (.int a2), none, none, none] [] P Q := by
  unfold b_X11_ask_0 at h
  refine x_aload_nr dX11_ask_0 rfl ?_
  refine x_iconst 0 dX11_ask_1 (by decide) ?_
  obtain ⟨P1, e2, h⟩ := Option.bind_eq_some_iff.mp h
  refine k_wI e2 dX11_ask_2 f_X11_3 (Or.inl (by decide)) rfl ?_
  refine x_aload_nr dX11_ask_5 rfl ?_
  refine x_iload_n dX11_ask_6 rfl ?_
  obtain ⟨r4, e5, h⟩ := Option.bind_eq_some_iff.mp h
  replace h := xI_ok h
  obtain ⟨v6, P3, rfl, h⟩ := h
  refine x_callS (c_X11_noPerson hl e5) dX11_ask_7 cw_X11_noPerson wl_X11_312 ws_X11_noPerson rfl (by omega) (by decide) rfl (Nat.le_of_ble_eq_true rfl) rfl (fun v9 P9 hq9 => ?_) (fun i9 P9 hq9 => by cases hq9)
  cases hq9
  refine x_iconst 1 dX11_ask_10 (by decide) ?_
  obtain ⟨_, e11, h⟩ := Option.bind_eq_some_iff.mp h
  obtain ⟨fse11, e11⟩ := kO_ok e11
  obtain ⟨r8, e9, h⟩ := Option.bind_eq_some_iff.mp h
  replace h := xI_ok h
  obtain ⟨v10, P7, rfl, h⟩ := h
  refine x_callV (c_X11_throwsIf hl e9) dX11_ask_11 cw_X11_throwsIf wl_X11_93 wi_X11_throwsIf wse_X11_throwsIf rfl e11 (by decide) rfl (by omega) (by decide) rfl (Nat.le_of_ble_eq_true rfl) rfl (fun v9 P9 hq9 => ?_) (fun i9 P9 hq9 => by cases hq9)
  cases hq9
  refine x_if_eq 19 dX11_ask_14 (by decide) (fun q30 => ?_) (fun q30 => ?_)
  · rw [if_pos q30] at h
    refine x_aload_nr dX11_ask_19 rfl ?_
    refine x_iload_n dX11_ask_20 rfl ?_
    refine x_aload_nr dX11_ask_21 rfl ?_
    obtain ⟨_, e16, h⟩ := Option.bind_eq_some_iff.mp h
    obtain ⟨fse16, e16⟩ := kO_ok e16
    obtain ⟨r13, e14, h⟩ := Option.bind_eq_some_iff.mp h
    replace h := xI_ok h
    obtain ⟨v15, P12, rfl, h⟩ := h
    refine x_callV (c_X11_tick hl e14) dX11_ask_22 cw_X11_tick wl_X11_97 wi_X11_tick wse_X11_tick rfl e16 (by decide) rfl (by omega) (by decide) rfl (Nat.le_of_ble_eq_true rfl) rfl (fun v9 P9 hq9 => ?_) (fun i9 P9 hq9 => by cases hq9)
    cases hq9
    refine x_aload_nr dX11_ask_25 rfl ?_
    obtain ⟨_, e21, h⟩ := Option.bind_eq_some_iff.mp h
    obtain ⟨fse21, e21⟩ := kO_ok e21
    obtain ⟨r18, e19, h⟩ := Option.bind_eq_some_iff.mp h
    replace h := xI_ok h
    obtain ⟨v20, P17, rfl, h⟩ := h
    refine x_callV (c_X11_tick hl e19) dX11_ask_26 cw_X11_tick wl_X11_97 wi_X11_tick wse_X11_tick rfl e21 (by decide) rfl (by omega) (by decide) rfl (Nat.le_of_ble_eq_true rfl) rfl (fun v9 P9 hq9 => ?_) (fun i9 P9 hq9 => by cases hq9)
    cases hq9
    obtain ⟨_, e26, h⟩ := Option.bind_eq_some_iff.mp h
    obtain ⟨fse26, e26⟩ := kO_ok e26
    obtain ⟨r23, e24, h⟩ := Option.bind_eq_some_iff.mp h
    replace h := xI_ok h
    obtain ⟨v25, P22, rfl, h⟩ := h
    refine x_callV (c_X11_couldBe hl e24) dX11_ask_29 cw_X11_couldBe wl_X11_345 wi_X11_couldBe wse_X11_couldBe rfl e26 (by decide) rfl (by omega) (by decide) rfl (Nat.le_of_ble_eq_true rfl) rfl (fun v9 P9 hq9 => ?_) (fun i9 P9 hq9 => by cases hq9)
    cases hq9
    refine x_istore_n dX11_ask_32 (Nat.le_of_ble_eq_true rfl) ?_
    refine x_aload_nr dX11_ask_33 rfl ?_
    obtain ⟨v27, e28, h⟩ := Option.bind_eq_some_iff.mp h
    refine k_rI e28 dX11_ask_34 f_X11_328 ?_
    refine x_if_ne 42 dX11_ask_37 (by decide) (fun q29 => ?_) (fun q29 => ?_)
    · rw [if_pos q29] at h
      refine x_iconst 0 dX11_ask_42 (by decide) ?_
      refine x_istore dX11_ask_43 (Nat.le_of_ble_eq_true rfl) ?_
      exact Wp.mask [true, true, true, true, true, false] (hrec 45 _ _ _ h _ _ rfl _ hQ)
    · rw [if_neg (fun z9 => z9 q29)] at h
      refine x_iconst 0 dX11_ask_40 (by decide) ?_
      cases h
      exact x_iret .int rfl rfl dX11_ask_41 hQ
  · rw [if_neg q30] at h
    refine x_iconst 0 dX11_ask_17 (by decide) ?_
    cases h
    exact x_iret .int rfl rfl dX11_ask_18 hQ
set_option maxHeartbeats 2000000 in
set_option maxRecDepth 20000 in
theorem t_X11_ask_45 {G : xG} {l : Launch} (hl : l.stackTraces = false) {n : Nat} {rec : Nat → List Value → xH → xO} (hrec : ∀ pc env P z, rec pc env P = some z → ∀ L st, lay_X11_ask pc env = some (L, st) → ∀ Q : xR → xH → Prop, Q z.1 z.2 → Wp G l 9 mX11_ask pc L st P Q) {a0 a1 a2 a3 a4} {P : xH} {z : xR × xH} (h : b_X11_ask_45 n rec a0 a1 a2 a3 a4 P = some z) {Q : xR → xH → Prop} (hQ : Q z.1 z.2) : Wp G l 9 mX11_ask 45 [some (.ref a0), some (.int a1), some (.int a2), some (.int a3), some (.int a4), none] [] P Q := by
  unfold b_X11_ask_45 at h
  refine x_iload dX11_ask_45 rfl ?_
  refine x_bipush 7 dX11_ask_47 (by decide) ?_
  refine x_icmp_ge 81 dX11_ask_49 (by decide) (fun q11 => ?_) (fun q11 => ?_)
  · rw [if_pos q11] at h
    refine x_iconst 0 dX11_ask_81 (by decide) ?_
    refine x_istore dX11_ask_82 (Nat.le_of_ble_eq_true rfl) ?_
    exact Wp.mask [true, true, true, true, true, false] (hrec 84 _ _ _ h _ _ rfl _ hQ)
  · rw [if_neg q11] at h
    refine x_aload_nr dX11_ask_52 rfl ?_
    obtain ⟨v1, e2, h⟩ := Option.bind_eq_some_iff.mp h
    refine k_rA e2 dX11_ask_53 f_X11_36 ?_
    refine x_iload dX11_ask_56 rfl ?_
    refine x_iload dX11_ask_58 rfl ?_
    refine x_bipush 6 dX11_ask_60 (by decide) ?_
    refine x_icmp_ne 73 dX11_ask_62 (by decide) (fun q10 => ?_) (fun q10 => ?_)
    · rw [if_pos q10] at h
      refine x_iconst 0 dX11_ask_73 (by decide) ?_
      obtain ⟨P3, e4, h⟩ := Option.bind_eq_some_iff.mp h
      refine k_sZ e4 dX11_ask_74 ?_
      refine x_iinc (a4 + 1) dX11_ask_75 rfl (by rfl) ?_
      refine x_goto 45 dX11_ask_78 (by decide) ?_
      exact Wp.mask [true, true, true, true, true, false] (hrec 45 _ _ _ h _ _ rfl _ hQ)
    · rw [if_neg (fun z9 => z9 q10)] at h
      refine x_iload_n dX11_ask_65 rfl ?_
      refine x_if_eq 73 dX11_ask_66 (by decide) (fun q9 => ?_) (fun q9 => ?_)
      · rw [if_pos q9] at h
        refine x_iconst 0 dX11_ask_73 (by decide) ?_
        obtain ⟨P5, e6, h⟩ := Option.bind_eq_some_iff.mp h
        refine k_sZ e6 dX11_ask_74 ?_
        refine x_iinc (a4 + 1) dX11_ask_75 rfl (by rfl) ?_
        refine x_goto 45 dX11_ask_78 (by decide) ?_
        exact Wp.mask [true, true, true, true, true, false] (hrec 45 _ _ _ h _ _ rfl _ hQ)
      · rw [if_neg q9] at h
        refine x_iconst 1 dX11_ask_69 (by decide) ?_
        refine x_goto 74 dX11_ask_70 (by decide) ?_
        obtain ⟨P7, e8, h⟩ := Option.bind_eq_some_iff.mp h
        refine k_sZ e8 dX11_ask_74 ?_
        refine x_iinc (a4 + 1) dX11_ask_75 rfl (by rfl) ?_
        refine x_goto 45 dX11_ask_78 (by decide) ?_
        exact Wp.mask [true, true, true, true, true, false] (hrec 45 _ _ _ h _ _ rfl _ hQ)
set_option maxHeartbeats 2000000 in
set_option maxRecDepth 20000 in
theorem t_X11_ask_84 {G : xG} {l : Launch} (hl : l.stackTraces = false) {n : Nat} {rec : Nat → List Value → xH → xO} (hrec : ∀ pc env P z, rec pc env P = some z → ∀ L st, lay_X11_ask pc env = some (L, st) → ∀ Q : xR → xH → Prop, Q z.1 z.2 → Wp G l 9 mX11_ask pc L st P Q) {a0 a1 a2 a3 a4} {P : xH} {z : xR × xH} (h : b_X11_ask_84 n rec a0 a1 a2 a3 a4 P = some z) {Q : xR → xH → Prop} (hQ : Q z.1 z.2) : Wp G l 9 mX11_ask 84 [some (.ref a0), some (.int a1), some (.int a2), some (.int a3), some (.int a4), none] [] P Q := by
  unfold b_X11_ask_84 at h
  refine x_iload dX11_ask_84 rfl ?_
  refine x_iconst 5 dX11_ask_86 (by decide) ?_
  refine x_icmp_ge 104 dX11_ask_87 (by decide) (fun q10 => ?_) (fun q10 => ?_)
  · rw [if_pos q10] at h
    refine x_aload_nr dX11_ask_104 rfl ?_
    obtain ⟨v1, e2, h⟩ := Option.bind_eq_some_iff.mp h
    refine k_rA e2 dX11_ask_105 f_X11_20 ?_
    refine x_sipush 1120 dX11_ask_108 (by decide) ?_
    refine x_iload_n dX11_ask_111 rfl ?_
    refine x_iadd dX11_ask_112 ?_
    obtain ⟨v3, e4, h⟩ := Option.bind_eq_some_iff.mp h
    refine k_aI e4 dX11_ask_113 ?_
    refine x_if_ne 121 dX11_ask_114 (by decide) (fun q5 => ?_) (fun q5 => ?_)
    · rw [if_pos q5] at h
      refine x_iconst 0 dX11_ask_121 (by decide) ?_
      refine x_istore dX11_ask_122 (Nat.le_of_ble_eq_true rfl) ?_
      refine x_iconst 0 dX11_ask_124 (by decide) ?_
      refine x_istore dX11_ask_125 (Nat.le_of_ble_eq_true rfl) ?_
      exact Wp.mask [true, true, true, true, true, true] (hrec 127 _ _ _ h _ _ rfl _ hQ)
    · rw [if_neg (fun z9 => z9 q5)] at h
      refine x_iconst 1 dX11_ask_117 (by decide) ?_
      refine x_goto 122 dX11_ask_118 (by decide) ?_
      refine x_istore dX11_ask_122 (Nat.le_of_ble_eq_true rfl) ?_
      refine x_iconst 0 dX11_ask_124 (by decide) ?_
      refine x_istore dX11_ask_125 (Nat.le_of_ble_eq_true rfl) ?_
      exact Wp.mask [true, true, true, true, true, true] (hrec 127 _ _ _ h _ _ rfl _ hQ)
  · rw [if_neg q10] at h
    refine x_aload_nr dX11_ask_90 rfl ?_
    obtain ⟨v6, e7, h⟩ := Option.bind_eq_some_iff.mp h
    refine k_rA e7 dX11_ask_91 f_X11_40 ?_
    refine x_iload dX11_ask_94 rfl ?_
    refine x_iconst 0 dX11_ask_96 (by decide) ?_
    obtain ⟨P8, e9, h⟩ := Option.bind_eq_some_iff.mp h
    refine k_sI e9 dX11_ask_97 ?_
    refine x_iinc (a4 + 1) dX11_ask_98 rfl (by rfl) ?_
    refine x_goto 84 dX11_ask_101 (by decide) ?_
    exact Wp.mask [true, true, true, true, true, false] (hrec 84 _ _ _ h _ _ rfl _ hQ)
set_option maxHeartbeats 2000000 in
set_option maxRecDepth 20000 in
theorem t_X11_ask_127 {G : xG} {l : Launch} (hl : l.stackTraces = false) {n : Nat} {rec : Nat → List Value → xH → xO} (hrec : ∀ pc env P z, rec pc env P = some z → ∀ L st, lay_X11_ask pc env = some (L, st) → ∀ Q : xR → xH → Prop, Q z.1 z.2 → Wp G l 9 mX11_ask pc L st P Q) {a0 a1 a2 a3 a4 a5} {P : xH} {z : xR × xH} (h : b_X11_ask_127 n rec a0 a1 a2 a3 a4 a5 P = some z) {Q : xR → xH → Prop} (hQ : Q z.1 z.2) : Wp G l 9 mX11_ask 127 [some (.ref a0), some (.int a1), some (.int a2), some (.int a3), some (.int a4), some (.int a5)] [] P Q := by
  unfold b_X11_ask_127 at h
  refine x_iload dX11_ask_127 rfl ?_
  refine x_aload_nr dX11_ask_129 rfl ?_
  obtain ⟨_, e5, h⟩ := Option.bind_eq_some_iff.mp h
  obtain ⟨fse5, e5⟩ := kO_ok e5
  obtain ⟨r2, e3, h⟩ := Option.bind_eq_some_iff.mp h
  replace h := xI_ok h
  obtain ⟨v4, P1, rfl, h⟩ := h
  refine x_callV (c_X11_lines hl e3) dX11_ask_130 cw_X11_lines wl_X11_252 wi_X11_lines wse_X11_lines rfl e5 (by decide) rfl (by omega) (by decide) rfl (Nat.le_of_ble_eq_true rfl) rfl (fun v9 P9 hq9 => ?_) (fun i9 P9 hq9 => by cases hq9)
  cases hq9
  refine x_icmp_ge 181 dX11_ask_133 (by decide) (fun q25 => ?_) (fun q25 => ?_)
  · rw [if_pos q25] at h
    refine x_iload dX11_ask_181 rfl ?_
    refine x_if_eq 190 dX11_ask_183 (by decide) (fun q6 => ?_) (fun q6 => ?_)
    · rw [if_pos q6] at h
      refine x_iconst 0 dX11_ask_190 (by decide) ?_
      cases h
      exact x_iret .int rfl rfl dX11_ask_191 hQ
    · rw [if_neg q6] at h
      refine x_iload_n dX11_ask_186 rfl ?_
      refine x_goto 191 dX11_ask_187 (by decide) ?_
      cases h
      exact x_iret .int rfl rfl dX11_ask_191 hQ
  · rw [if_neg q25] at h
    refine x_iload dX11_ask_136 rfl ?_
    refine x_if_ne 168 dX11_ask_138 (by decide) (fun q24 => ?_) (fun q24 => ?_)
    · rw [if_pos q24] at h
      refine x_iconst 1 dX11_ask_168 (by decide) ?_
      refine x_goto 173 dX11_ask_169 (by decide) ?_
      refine x_istore dX11_ask_173 (Nat.le_of_ble_eq_true rfl) ?_
      refine x_iinc (a5 + 1) dX11_ask_175 rfl (by rfl) ?_
      refine x_goto 127 dX11_ask_178 (by decide) ?_
      exact Wp.mask [true, true, true, true, true, true] (hrec 127 _ _ _ h _ _ rfl _ hQ)
    · rw [if_neg (fun z9 => z9 q24)] at h
      refine x_aload_nr dX11_ask_141 rfl ?_
      obtain ⟨v7, e8, h⟩ := Option.bind_eq_some_iff.mp h
      refine k_rA e8 dX11_ask_142 f_X11_20 ?_
      refine x_aload_nr dX11_ask_145 rfl ?_
      obtain ⟨v9, e10, h⟩ := Option.bind_eq_some_iff.mp h
      refine k_rI e10 dX11_ask_146 f_X11_246 ?_
      refine x_iload dX11_ask_149 rfl ?_
      obtain ⟨r12, e13, h⟩ := Option.bind_eq_some_iff.mp h
      replace h := xI_ok h
      obtain ⟨v14, P11, rfl, h⟩ := h
      refine x_callS (c_X11_lineAt hl e13) dX11_ask_151 cw_X11_lineAt wl_X11_209 ws_X11_lineAt rfl (by omega) (by decide) rfl (Nat.le_of_ble_eq_true rfl) rfl (fun v9 P9 hq9 => ?_) (fun i9 P9 hq9 => by cases hq9)
      cases hq9
      obtain ⟨v15, e16, h⟩ := Option.bind_eq_some_iff.mp h
      refine k_aI e16 dX11_ask_154 ?_
      refine x_iconst 3 dX11_ask_155 (by decide) ?_
      refine x_icmp_ne 172 dX11_ask_156 (by decide) (fun q23 => ?_) (fun q23 => ?_)
      · rw [if_pos q23] at h
        refine x_iconst 0 dX11_ask_172 (by decide) ?_
        refine x_istore dX11_ask_173 (Nat.le_of_ble_eq_true rfl) ?_
        refine x_iinc (a5 + 1) dX11_ask_175 rfl (by rfl) ?_
        refine x_goto 127 dX11_ask_178 (by decide) ?_
        exact Wp.mask [true, true, true, true, true, true] (hrec 127 _ _ _ h _ _ rfl _ hQ)
      · rw [if_neg (fun z9 => z9 q23)] at h
        refine x_aload_nr dX11_ask_159 rfl ?_
        refine x_iload dX11_ask_160 rfl ?_
        obtain ⟨_, e21, h⟩ := Option.bind_eq_some_iff.mp h
        obtain ⟨fse21, e21⟩ := kO_ok e21
        obtain ⟨r18, e19, h⟩ := Option.bind_eq_some_iff.mp h
        replace h := xI_ok h
        obtain ⟨v20, P17, rfl, h⟩ := h
        refine x_callV (c_X11_holds hl e19) dX11_ask_162 cw_X11_holds wl_X11_255 wi_X11_holds wse_X11_holds rfl e21 (by decide) rfl (by omega) (by decide) rfl (Nat.le_of_ble_eq_true rfl) rfl (fun v9 P9 hq9 => ?_) (fun i9 P9 hq9 => by cases hq9)
        cases hq9
        refine x_if_eq 172 dX11_ask_165 (by decide) (fun q22 => ?_) (fun q22 => ?_)
        · rw [if_pos q22] at h
          refine x_iconst 0 dX11_ask_172 (by decide) ?_
          refine x_istore dX11_ask_173 (Nat.le_of_ble_eq_true rfl) ?_
          refine x_iinc (a5 + 1) dX11_ask_175 rfl (by rfl) ?_
          refine x_goto 127 dX11_ask_178 (by decide) ?_
          exact Wp.mask [true, true, true, true, true, true] (hrec 127 _ _ _ h _ _ rfl _ hQ)
        · rw [if_neg q22] at h
          refine x_iconst 1 dX11_ask_168 (by decide) ?_
          refine x_goto 173 dX11_ask_169 (by decide) ?_
          refine x_istore dX11_ask_173 (Nat.le_of_ble_eq_true rfl) ?_
          refine x_iinc (a5 + 1) dX11_ask_175 rfl (by rfl) ?_
          refine x_goto 127 dX11_ask_178 (by decide) ?_
          exact Wp.mask [true, true, true, true, true, true] (hrec 127 _ _ _ h _ _ rfl _ hQ)
theorem s_X11_ask {G : xG} {l : Launch} (hl : l.stackTraces = false) : ∀ n pc env P z, f_X11_ask n pc env P = some z → ∀ L st, lay_X11_ask pc env = some (L, st) → ∀ Q : xR → xH → Prop, Q z.1 z.2 → Wp G l 9 mX11_ask pc L st P Q := by
  intro n
  induction n with
  | zero => intro pc env P z h; cases h
  | succ n ih =>
    intro pc env P z h L st hlay Q hQ
    unfold f_X11_ask at h
    split at h
    · cases hlay
      exact t_X11_ask_0 hl ih h hQ
    · cases hlay
      exact t_X11_ask_45 hl ih h hQ
    · cases hlay
      exact t_X11_ask_84 hl ih h hQ
    · cases hlay
      exact t_X11_ask_127 hl ih h hQ
    · cases h
theorem c_X11_ask {G : xG} {l : Launch} (hl : l.stackTraces = false) {n : Nat} {as : List Value} {P : xH} {z : xR × xH} (h : f_X11_ask n 0 as P = some z) : Ct G l 9 mX11_ask as P (fun r P1 => (r, P1) = z) := by
  cases n with
  | zero => cases h
  | succ n =>
    unfold f_X11_ask at h
    split at h
    · exact Ct.of hl (by decide +kernel) wc_X11_ask (Nat.le_of_ble_eq_true rfl) (t_X11_ask_0 hl (s_X11_ask hl _) h rfl)
    all_goals first | (cases h; done) | (rename_i q9 _; exact absurd q9 (by decide)) | (rename_i q9; exact absurd q9 (by decide)) | contradiction
