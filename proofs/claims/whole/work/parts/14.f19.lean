/-! QuakeNetModel.copy(III)I -/
def b_X11_copy_0 (n : Nat) (rec : Nat → List Value → xH → xO) (a0 : Nat) (a1 : Int32) (a2 : Int32) (a3 : Int32) (P : xH) : xO :=
  (wV P a0 11 0 (.int 0)).bind fun P1 =>
  (kO P1 a0 11).bind fun _ =>
  (f_X11_noPhone n 0 [.ref a0, .int a1] P1).bind fun r4 => xI r4 fun v6 P3 =>
  if ¬ v6 = 0 then
    rec 27 [.ref a0, .int a1, .int a2, .int a3, .ref a0, .int 1] P3
  else
    (kO P3 a0 11).bind fun _ =>
    (f_X11_noWord n 0 [.ref a0, .int a2] P3).bind fun r9 => xI r9 fun v11 P8 =>
    if v11 = 0 then
      rec 27 [.ref a0, .int a1, .int a2, .int a3, .ref a0, .int 0] P8
    else
      rec 27 [.ref a0, .int a1, .int a2, .int a3, .ref a0, .int 1] P8
def b_X11_copy_27 (n : Nat) (rec : Nat → List Value → xH → xO) (a0 : Nat) (a1 : Int32) (a2 : Int32) (a3 : Int32) (s0 : Nat) (s1 : Int32) (P : xH) : xO :=
  (kO P s0 11).bind fun _ =>
  (f_X11_throwsIf n 0 [.ref s0, .int s1, .int 1] P).bind fun r2 => xI r2 fun v4 P1 =>
  if ¬ v4 = 0 then
    some (.inl (some (.int 0)), P1)
  else
    (f_X11_in n 0 [.int a3, .int 0, .int 5] P1).bind fun r7 => xI r7 fun v9 P6 =>
    if ¬ v9 = 0 then
      rec 49 [.ref a0, .int a1, .int a2, .int a3, .ref a0, .int 0] P6
    else
      rec 49 [.ref a0, .int a1, .int a2, .int a3, .ref a0, .int 1] P6
def b_X11_copy_49 (n : Nat) (rec : Nat → List Value → xH → xO) (a0 : Nat) (a1 : Int32) (a2 : Int32) (a3 : Int32) (s0 : Nat) (s1 : Int32) (P : xH) : xO :=
  (kO P s0 11).bind fun _ =>
  (f_X11_throwsIf n 0 [.ref s0, .int s1, .int 2] P).bind fun r2 => xI r2 fun v4 P1 =>
  if v4 = 0 then
    (kO P1 a0 11).bind fun _ =>
    (f_X11_has n 0 [.ref a0, .int a1, .int a2] P1).bind fun r7 => xI r7 fun v9 P6 =>
    if ¬ v9 = 0 then
      if ¬ a3 = 4 then
        if ¬ a3 = 5 then
          (rA P6 a0 11 1).bind fun v11 =>
          if ¬ a3 = 0 then
            if ¬ a3 = 1 then
              if ¬ a3 = 2 then
                rec 138 [.ref a0, .int a1, .int a2, .int a3, .ref v11, .int a1, .int a2, .int 4] P6
              else
                rec 138 [.ref a0, .int a1, .int a2, .int a3, .ref v11, .int a1, .int a2, .int 3] P6
            else
              rec 138 [.ref a0, .int a1, .int a2, .int a3, .ref v11, .int a1, .int a2, .int 2] P6
          else
            rec 138 [.ref a0, .int a1, .int a2, .int a3, .ref v11, .int a1, .int a2, .int 1] P6
        else
          (kO P6 a0 11).bind fun _ =>
          (f_X11_mayPass n 0 [.ref a0, .int a1, .int a2] P6).bind fun r17 => xI r17 fun v19 P16 =>
          if v19 = 0 then
            some (.inl (some (.int 0)), P16)
          else
            some (.inl (some (.int 1)), P16)
      else
        (kO P6 a0 11).bind fun _ =>
        (f_X11_markOf n 0 [.ref a0, .int a1, .int a2] P6).bind fun r24 => xI r24 fun v26 P23 =>
        some (.inl (some (.int v26)), P23)
    else
      some (.inl (some (.int ((-1)))), P6)
  else
    some (.inl (some (.int 0)), P1)
def b_X11_copy_138 (n : Nat) (rec : Nat → List Value → xH → xO) (a0 : Nat) (a1 : Int32) (a2 : Int32) (a3 : Int32) (s0 : Nat) (s1 : Int32) (s2 : Int32) (s3 : Int32) (P : xH) : xO :=
  (f_X11_copyAt n 0 [.int s1, .int s2, .int s3] P).bind fun r2 => xI r2 fun v4 P1 =>
  (aI P1 s0 v4).bind fun v5 =>
  some (.inl (some (.int v5)), P1)
def lay_X11_copy : Nat → List Value → Option (xL × List Value)
  | 0, [a0, a1, a2, a3] => some ([some a0, some a1, some a2, some a3], [])
  | 27, [a0, a1, a2, a3, s0, s1] => some ([some a0, some a1, some a2, some a3], [s1, s0])
  | 49, [a0, a1, a2, a3, s0, s1] => some ([some a0, some a1, some a2, some a3], [s1, s0])
  | 138, [a0, a1, a2, a3, s0, s1, s2, s3] => some ([some a0, some a1, some a2, some a3], [s3, s2, s1, s0])
  | _, _ => none
def f_X11_copy : Nat → Nat → List Value → xH → xO
  | 0 => fun _ _ _ => none
  | n + 1 => fun pc env P => match pc, env with
    | 0, [.ref a0, .int a1, .int a2, .int a3] => b_X11_copy_0 n (f_X11_copy n) a0 a1 a2 a3 P
    | 27, [.ref a0, .int a1, .int a2, .int a3, .ref s0, .int s1] => b_X11_copy_27 n (f_X11_copy n) a0 a1 a2 a3 s0 s1 P
    | 49, [.ref a0, .int a1, .int a2, .int a3, .ref s0, .int s1] => b_X11_copy_49 n (f_X11_copy n) a0 a1 a2 a3 s0 s1 P
    | 138, [.ref a0, .int a1, .int a2, .int a3, .ref s0, .int s1, .int s2, .int s3] => b_X11_copy_138 n (f_X11_copy n) a0 a1 a2 a3 s0 s1 s2 s3 P
    | _, _ => none
set_option maxHeartbeats 2000000 in
set_option maxRecDepth 20000 in
theorem t_X11_copy_0 {G : xG} {l : Launch} (hl : l.stackTraces = false) {n : Nat} {rec : Nat → List Value → xH → xO} (hrec : ∀ pc env P z, rec pc env P = some z → ∀ L st, lay_X11_copy pc env = some (L, st) → ∀ Q : xR → xH → Prop, Q z.1 z.2 → Wp G l 8 mX11_copy pc L st P Q) {a0 a1 a2 a3} {P : xH} {z : xR × xH} (h : b_X11_copy_0 n rec a0 a1 a2 a3 P = some z) {Q : xR → xH → Prop} (hQ : Q z.1 z.2) : Wp G l 8 mX11_copy 0 [some (.ref a0), some (.int a1), some (.int a2), some (.int a3)] [] P Q := by
  unfold b_X11_copy_0 at h
  refine x_aload_nr dX11_copy_0 rfl ?_
  refine x_iconst 0 dX11_copy_1 (by decide) ?_
  obtain ⟨P1, e2, h⟩ := Option.bind_eq_some_iff.mp h
  refine k_wI e2 dX11_copy_2 f_X11_3 (Or.inl (by decide)) rfl ?_
  refine x_aload_nr dX11_copy_5 rfl ?_
  refine x_aload_nr dX11_copy_6 rfl ?_
  refine x_iload_n dX11_copy_7 rfl ?_
  obtain ⟨_, e7, h⟩ := Option.bind_eq_some_iff.mp h
  obtain ⟨fse7, e7⟩ := kO_ok e7
  obtain ⟨r4, e5, h⟩ := Option.bind_eq_some_iff.mp h
  replace h := xI_ok h
  obtain ⟨v6, P3, rfl, h⟩ := h
  refine x_callV (c_X11_noPhone hl e5) dX11_copy_8 cw_X11_noPhone wl_X11_104 wi_X11_noPhone wse_X11_noPhone rfl e7 (by decide) rfl (by omega) (by decide) rfl (Nat.le_of_ble_eq_true rfl) rfl (fun v9 P9 hq9 => ?_) (fun i9 P9 hq9 => by cases hq9)
  cases hq9
  refine x_if_ne 22 dX11_copy_11 (by decide) (fun q14 => ?_) (fun q14 => ?_)
  · rw [if_pos q14] at h
    refine x_iconst 1 dX11_copy_22 (by decide) ?_
    refine x_goto 27 dX11_copy_23 (by decide) ?_
    exact Wp.mask [true, true, true, true] (hrec 27 _ _ _ h _ _ rfl _ hQ)
  · rw [if_neg (fun z9 => z9 q14)] at h
    refine x_aload_nr dX11_copy_14 rfl ?_
    refine x_iload_n dX11_copy_15 rfl ?_
    obtain ⟨_, e12, h⟩ := Option.bind_eq_some_iff.mp h
    obtain ⟨fse12, e12⟩ := kO_ok e12
    obtain ⟨r9, e10, h⟩ := Option.bind_eq_some_iff.mp h
    replace h := xI_ok h
    obtain ⟨v11, P8, rfl, h⟩ := h
    refine x_callV (c_X11_noWord hl e10) dX11_copy_16 cw_X11_noWord wl_X11_322 wi_X11_noWord wse_X11_noWord rfl e12 (by decide) rfl (by omega) (by decide) rfl (Nat.le_of_ble_eq_true rfl) rfl (fun v9 P9 hq9 => ?_) (fun i9 P9 hq9 => by cases hq9)
    cases hq9
    refine x_if_eq 26 dX11_copy_19 (by decide) (fun q13 => ?_) (fun q13 => ?_)
    · rw [if_pos q13] at h
      refine x_iconst 0 dX11_copy_26 (by decide) ?_
      exact Wp.mask [true, true, true, true] (hrec 27 _ _ _ h _ _ rfl _ hQ)
    · rw [if_neg q13] at h
      refine x_iconst 1 dX11_copy_22 (by decide) ?_
      refine x_goto 27 dX11_copy_23 (by decide) ?_
      exact Wp.mask [true, true, true, true] (hrec 27 _ _ _ h _ _ rfl _ hQ)
set_option maxHeartbeats 2000000 in
set_option maxRecDepth 20000 in
theorem t_X11_copy_27 {G : xG} {l : Launch} (hl : l.stackTraces = false) {n : Nat} {rec : Nat → List Value → xH → xO} (hrec : ∀ pc env P z, rec pc env P = some z → ∀ L st, lay_X11_copy pc env = some (L, st) → ∀ Q : xR → xH → Prop, Q z.1 z.2 → Wp G l 8 mX11_copy pc L st P Q) {a0 a1 a2 a3 s0 s1} {P : xH} {z : xR × xH} (h : b_X11_copy_27 n rec a0 a1 a2 a3 s0 s1 P = some z) {Q : xR → xH → Prop} (hQ : Q z.1 z.2) : Wp G l 8 mX11_copy 27 [some (.ref a0), some (.int a1), some (.int a2), some (.int a3)] [.int s1, .ref s0] P Q := by
  unfold b_X11_copy_27 at h
  refine x_iconst 1 dX11_copy_27 (by decide) ?_
  obtain ⟨_, e5, h⟩ := Option.bind_eq_some_iff.mp h
  obtain ⟨fse5, e5⟩ := kO_ok e5
  obtain ⟨r2, e3, h⟩ := Option.bind_eq_some_iff.mp h
  replace h := xI_ok h
  obtain ⟨v4, P1, rfl, h⟩ := h
  refine x_callV (c_X11_throwsIf hl e3) dX11_copy_28 cw_X11_throwsIf wl_X11_93 wi_X11_throwsIf wse_X11_throwsIf rfl e5 (by decide) rfl (by omega) (by decide) rfl (Nat.le_of_ble_eq_true rfl) rfl (fun v9 P9 hq9 => ?_) (fun i9 P9 hq9 => by cases hq9)
  cases hq9
  refine x_if_ne 56 dX11_copy_31 (by decide) (fun q11 => ?_) (fun q11 => ?_)
  · rw [if_pos q11] at h
    refine x_iconst 0 dX11_copy_56 (by decide) ?_
    cases h
    exact x_iret .int rfl rfl dX11_copy_57 hQ
  · rw [if_neg (fun z9 => z9 q11)] at h
    refine x_aload_nr dX11_copy_34 rfl ?_
    refine x_iload_n dX11_copy_35 rfl ?_
    refine x_iconst 0 dX11_copy_36 (by decide) ?_
    refine x_iconst 5 dX11_copy_37 (by decide) ?_
    obtain ⟨r7, e8, h⟩ := Option.bind_eq_some_iff.mp h
    replace h := xI_ok h
    obtain ⟨v9, P6, rfl, h⟩ := h
    refine x_callS (c_X11_in hl e8) dX11_copy_38 cw_X11_in wl_X11_68 ws_X11_in rfl (by omega) (by decide) rfl (Nat.le_of_ble_eq_true rfl) rfl (fun v9 P9 hq9 => ?_) (fun i9 P9 hq9 => by cases hq9)
    cases hq9
    refine x_if_ne 48 dX11_copy_41 (by decide) (fun q10 => ?_) (fun q10 => ?_)
    · rw [if_pos q10] at h
      refine x_iconst 0 dX11_copy_48 (by decide) ?_
      exact Wp.mask [true, true, true, true] (hrec 49 _ _ _ h _ _ rfl _ hQ)
    · rw [if_neg (fun z9 => z9 q10)] at h
      refine x_iconst 1 dX11_copy_44 (by decide) ?_
      refine x_goto 49 dX11_copy_45 (by decide) ?_
      exact Wp.mask [true, true, true, true] (hrec 49 _ _ _ h _ _ rfl _ hQ)
set_option maxHeartbeats 2000000 in
set_option maxRecDepth 20000 in
theorem t_X11_copy_49 {G : xG} {l : Launch} (hl : l.stackTraces = false) {n : Nat} {rec : Nat → List Value → xH → xO} (hrec : ∀ pc env P z, rec pc env P = some z → ∀ L st, lay_X11_copy pc env = some (L, st) → ∀ Q : xR → xH → Prop, Q z.1 z.2 → Wp G l 8 mX11_copy pc L st P Q) {a0 a1 a2 a3 s0 s1} {P : xH} {z : xR × xH} (h : b_X11_copy_49 n rec a0 a1 a2 a3 s0 s1 P = some z) {Q : xR → xH → Prop} (hQ : Q z.1 z.2) : Wp G l 8 mX11_copy 49 [some (.ref a0), some (.int a1), some (.int a2), some (.int a3)] [.int s1, .ref s0] P Q := by
  unfold b_X11_copy_49 at h
  refine x_iconst 2 dX11_copy_49 (by decide) ?_
  obtain ⟨_, e5, h⟩ := Option.bind_eq_some_iff.mp h
  obtain ⟨fse5, e5⟩ := kO_ok e5
  obtain ⟨r2, e3, h⟩ := Option.bind_eq_some_iff.mp h
  replace h := xI_ok h
  obtain ⟨v4, P1, rfl, h⟩ := h
  refine x_callV (c_X11_throwsIf hl e3) dX11_copy_50 cw_X11_throwsIf wl_X11_93 wi_X11_throwsIf wse_X11_throwsIf rfl e5 (by decide) rfl (by omega) (by decide) rfl (Nat.le_of_ble_eq_true rfl) rfl (fun v9 P9 hq9 => ?_) (fun i9 P9 hq9 => by cases hq9)
  cases hq9
  refine x_if_eq 58 dX11_copy_53 (by decide) (fun q30 => ?_) (fun q30 => ?_)
  · rw [if_pos q30] at h
    refine x_aload_nr dX11_copy_58 rfl ?_
    refine x_iload_n dX11_copy_59 rfl ?_
    refine x_iload_n dX11_copy_60 rfl ?_
    obtain ⟨_, e10, h⟩ := Option.bind_eq_some_iff.mp h
    obtain ⟨fse10, e10⟩ := kO_ok e10
    obtain ⟨r7, e8, h⟩ := Option.bind_eq_some_iff.mp h
    replace h := xI_ok h
    obtain ⟨v9, P6, rfl, h⟩ := h
    refine x_callV (c_X11_has hl e8) dX11_copy_61 cw_X11_has wl_X11_237 wi_X11_has wse_X11_has rfl e10 (by decide) rfl (by omega) (by decide) rfl (Nat.le_of_ble_eq_true rfl) rfl (fun v9 P9 hq9 => ?_) (fun i9 P9 hq9 => by cases hq9)
    cases hq9
    refine x_if_ne 69 dX11_copy_64 (by decide) (fun q29 => ?_) (fun q29 => ?_)
    · rw [if_pos q29] at h
      refine x_iload_n dX11_copy_69 rfl ?_
      refine x_iconst 4 dX11_copy_70 (by decide) ?_
      refine x_icmp_ne 83 dX11_copy_71 (by decide) (fun q28 => ?_) (fun q28 => ?_)
      · rw [if_pos q28] at h
        refine x_iload_n dX11_copy_83 rfl ?_
        refine x_iconst 5 dX11_copy_84 (by decide) ?_
        refine x_icmp_ne 105 dX11_copy_85 (by decide) (fun q22 => ?_) (fun q22 => ?_)
        · rw [if_pos q22] at h
          refine x_aload_nr dX11_copy_105 rfl ?_
          obtain ⟨v11, e12, h⟩ := Option.bind_eq_some_iff.mp h
          refine k_rA e12 dX11_copy_106 f_X11_13 ?_
          refine x_iload_n dX11_copy_109 rfl ?_
          refine x_iload_n dX11_copy_110 rfl ?_
          refine x_iload_n dX11_copy_111 rfl ?_
          refine x_if_ne 119 dX11_copy_112 (by decide) (fun q15 => ?_) (fun q15 => ?_)
          · rw [if_pos q15] at h
            refine x_iload_n dX11_copy_119 rfl ?_
            refine x_iconst 1 dX11_copy_120 (by decide) ?_
            refine x_icmp_ne 128 dX11_copy_121 (by decide) (fun q14 => ?_) (fun q14 => ?_)
            · rw [if_pos q14] at h
              refine x_iload_n dX11_copy_128 rfl ?_
              refine x_iconst 2 dX11_copy_129 (by decide) ?_
              refine x_icmp_ne 137 dX11_copy_130 (by decide) (fun q13 => ?_) (fun q13 => ?_)
              · rw [if_pos q13] at h
                refine x_iconst 4 dX11_copy_137 (by decide) ?_
                exact Wp.mask [true, true, true, true] (hrec 138 _ _ _ h _ _ rfl _ hQ)
              · rw [if_neg (fun z9 => z9 q13)] at h
                refine x_iconst 3 dX11_copy_133 (by decide) ?_
                refine x_goto 138 dX11_copy_134 (by decide) ?_
                exact Wp.mask [true, true, true, true] (hrec 138 _ _ _ h _ _ rfl _ hQ)
            · rw [if_neg (fun z9 => z9 q14)] at h
              refine x_iconst 2 dX11_copy_124 (by decide) ?_
              refine x_goto 138 dX11_copy_125 (by decide) ?_
              exact Wp.mask [true, true, true, true] (hrec 138 _ _ _ h _ _ rfl _ hQ)
          · rw [if_neg (fun z9 => z9 q15)] at h
            refine x_iconst 1 dX11_copy_115 (by decide) ?_
            refine x_goto 138 dX11_copy_116 (by decide) ?_
            exact Wp.mask [true, true, true, true] (hrec 138 _ _ _ h _ _ rfl _ hQ)
        · rw [if_neg (fun z9 => z9 q22)] at h
          refine x_aload_nr dX11_copy_88 rfl ?_
          refine x_iload_n dX11_copy_89 rfl ?_
          refine x_iload_n dX11_copy_90 rfl ?_
          obtain ⟨_, e20, h⟩ := Option.bind_eq_some_iff.mp h
          obtain ⟨fse20, e20⟩ := kO_ok e20
          obtain ⟨r17, e18, h⟩ := Option.bind_eq_some_iff.mp h
          replace h := xI_ok h
          obtain ⟨v19, P16, rfl, h⟩ := h
          refine x_callV (c_X11_mayPass hl e18) dX11_copy_91 cw_X11_mayPass wl_X11_277 wi_X11_mayPass wse_X11_mayPass rfl e20 (by decide) rfl (by omega) (by decide) rfl (Nat.le_of_ble_eq_true rfl) rfl (fun v9 P9 hq9 => ?_) (fun i9 P9 hq9 => by cases hq9)
          cases hq9
          refine x_if_eq 101 dX11_copy_94 (by decide) (fun q21 => ?_) (fun q21 => ?_)
          · rw [if_pos q21] at h
            refine x_iconst 0 dX11_copy_101 (by decide) ?_
            refine x_goto 142 dX11_copy_102 (by decide) ?_
            cases h
            exact x_iret .int rfl rfl dX11_copy_142 hQ
          · rw [if_neg q21] at h
            refine x_iconst 1 dX11_copy_97 (by decide) ?_
            refine x_goto 142 dX11_copy_98 (by decide) ?_
            cases h
            exact x_iret .int rfl rfl dX11_copy_142 hQ
      · rw [if_neg (fun z9 => z9 q28)] at h
        refine x_aload_nr dX11_copy_74 rfl ?_
        refine x_iload_n dX11_copy_75 rfl ?_
        refine x_iload_n dX11_copy_76 rfl ?_
        obtain ⟨_, e27, h⟩ := Option.bind_eq_some_iff.mp h
        obtain ⟨fse27, e27⟩ := kO_ok e27
        obtain ⟨r24, e25, h⟩ := Option.bind_eq_some_iff.mp h
        replace h := xI_ok h
        obtain ⟨v26, P23, rfl, h⟩ := h
        refine x_callV (c_X11_markOf hl e25) dX11_copy_77 cw_X11_markOf wl_X11_258 wi_X11_markOf wse_X11_markOf rfl e27 (by decide) rfl (by omega) (by decide) rfl (Nat.le_of_ble_eq_true rfl) rfl (fun v9 P9 hq9 => ?_) (fun i9 P9 hq9 => by cases hq9)
        cases hq9
        refine x_goto 142 dX11_copy_80 (by decide) ?_
        cases h
        exact x_iret .int rfl rfl dX11_copy_142 hQ
    · rw [if_neg (fun z9 => z9 q29)] at h
      refine x_iconst (-1) dX11_copy_67 (by decide) ?_
      cases h
      exact x_iret .int rfl rfl dX11_copy_68 hQ
  · rw [if_neg q30] at h
    refine x_iconst 0 dX11_copy_56 (by decide) ?_
    cases h
    exact x_iret .int rfl rfl dX11_copy_57 hQ
set_option maxHeartbeats 2000000 in
set_option maxRecDepth 20000 in
theorem t_X11_copy_138 {G : xG} {l : Launch} (hl : l.stackTraces = false) {n : Nat} {rec : Nat → List Value → xH → xO} (hrec : ∀ pc env P z, rec pc env P = some z → ∀ L st, lay_X11_copy pc env = some (L, st) → ∀ Q : xR → xH → Prop, Q z.1 z.2 → Wp G l 8 mX11_copy pc L st P Q) {a0 a1 a2 a3 s0 s1 s2 s3} {P : xH} {z : xR × xH} (h : b_X11_copy_138 n rec a0 a1 a2 a3 s0 s1 s2 s3 P = some z) {Q : xR → xH → Prop} (hQ : Q z.1 z.2) : Wp G l 8 mX11_copy 138 [some (.ref a0), some (.int a1), some (.int a2), some (.int a3)] [.int s3, .int s2, .int s1, .ref s0] P Q := by
  unfold b_X11_copy_138 at h
  obtain ⟨r2, e3, h⟩ := Option.bind_eq_some_iff.mp h
  replace h := xI_ok h
  obtain ⟨v4, P1, rfl, h⟩ := h
  refine x_callS (c_X11_copyAt hl e3) dX11_copy_138 cw_X11_copyAt wl_X11_85 ws_X11_copyAt rfl (by omega) (by decide) rfl (Nat.le_of_ble_eq_true rfl) rfl (fun v9 P9 hq9 => ?_) (fun i9 P9 hq9 => by cases hq9)
  cases hq9
  obtain ⟨v5, e6, h⟩ := Option.bind_eq_some_iff.mp h
  refine k_aI e6 dX11_copy_141 ?_
  cases h
  exact x_iret .int rfl rfl dX11_copy_142 hQ
theorem s_X11_copy {G : xG} {l : Launch} (hl : l.stackTraces = false) : ∀ n pc env P z, f_X11_copy n pc env P = some z → ∀ L st, lay_X11_copy pc env = some (L, st) → ∀ Q : xR → xH → Prop, Q z.1 z.2 → Wp G l 8 mX11_copy pc L st P Q := by
  intro n
  induction n with
  | zero => intro pc env P z h; cases h
  | succ n ih =>
    intro pc env P z h L st hlay Q hQ
    unfold f_X11_copy at h
    split at h
    · cases hlay
      exact t_X11_copy_0 hl ih h hQ
    · cases hlay
      exact t_X11_copy_27 hl ih h hQ
    · cases hlay
      exact t_X11_copy_49 hl ih h hQ
    · cases hlay
      exact t_X11_copy_138 hl ih h hQ
    · cases h
theorem c_X11_copy {G : xG} {l : Launch} (hl : l.stackTraces = false) {n : Nat} {as : List Value} {P : xH} {z : xR × xH} (h : f_X11_copy n 0 as P = some z) : Ct G l 8 mX11_copy as P (fun r P1 => (r, P1) = z) := by
  cases n with
  | zero => cases h
  | succ n =>
    unfold f_X11_copy at h
    split at h
    · exact Ct.of hl (by decide +kernel) wc_X11_copy (Nat.le_of_ble_eq_true rfl) (t_X11_copy_0 hl (s_X11_copy hl _) h rfl)
    all_goals first | (cases h; done) | (rename_i q9 _; exact absurd q9 (by decide)) | (rename_i q9; exact absurd q9 (by decide)) | contradiction
/-! QuakeNetModel.word(II)I -/
def b_X11_word_0 (n : Nat) (rec : Nat → List Value → xH → xO) (a0 : Nat) (a1 : Int32) (a2 : Int32) (P : xH) : xO :=
  (wV P a0 11 0 (.int 0)).bind fun P1 =>
  (kO P1 a0 11).bind fun _ =>
  (f_X11_noWord n 0 [.ref a0, .int a1] P1).bind fun r4 => xI r4 fun v6 P3 =>
  (kO P3 a0 11).bind fun _ =>
  (f_X11_throwsIf n 0 [.ref a0, .int v6, .int 1] P3).bind fun r9 => xI r9 fun v11 P8 =>
  if ¬ v11 = 0 then
    some (.inl (some (.int 0)), P8)
  else
    (f_X11_in n 0 [.int a2, .int 0, .int 10] P8).bind fun r14 => xI r14 fun v16 P13 =>
    if ¬ v16 = 0 then
      rec 34 [.ref a0, .int a1, .int a2, .ref a0, .int 0] P13
    else
      rec 34 [.ref a0, .int a1, .int a2, .ref a0, .int 1] P13
def b_X11_word_34 (n : Nat) (rec : Nat → List Value → xH → xO) (a0 : Nat) (a1 : Int32) (a2 : Int32) (s0 : Nat) (s1 : Int32) (P : xH) : xO :=
  (kO P s0 11).bind fun _ =>
  (f_X11_throwsIf n 0 [.ref s0, .int s1, .int 2] P).bind fun r2 => xI r2 fun v4 P1 =>
  if v4 = 0 then
    if ¬ a2 = 9 then
      if ¬ a2 = 10 then
        (kO P1 a0 11).bind fun _ =>
        (f_X11_of n 0 [.ref a0, .int a1, .int a2] P1).bind fun r7 => xI r7 fun v9 P6 =>
        some (.inl (some (.int v9)), P6)
      else
        (kO P1 a0 11).bind fun _ =>
        (f_X11_isDead n 0 [.ref a0, .int a1] P1).bind fun r12 => xI r12 fun v14 P11 =>
        if v14 = 0 then
          some (.inl (some (.int 0)), P11)
        else
          some (.inl (some (.int 1)), P11)
    else
      (kO P1 a0 11).bind fun _ =>
      (f_X11_haveOf n 0 [.ref a0, .int a1] P1).bind fun r19 => xI r19 fun v21 P18 =>
      some (.inl (some (.int v21)), P18)
  else
    some (.inl (some (.int 0)), P1)
def lay_X11_word : Nat → List Value → Option (xL × List Value)
  | 0, [a0, a1, a2] => some ([some a0, some a1, some a2], [])
  | 34, [a0, a1, a2, s0, s1] => some ([some a0, some a1, some a2], [s1, s0])
  | _, _ => none
def f_X11_word : Nat → Nat → List Value → xH → xO
  | 0 => fun _ _ _ => none
  | n + 1 => fun pc env P => match pc, env with
    | 0, [.ref a0, .int a1, .int a2] => b_X11_word_0 n (f_X11_word n) a0 a1 a2 P
    | 34, [.ref a0, .int a1, .int a2, .ref s0, .int s1] => b_X11_word_34 n (f_X11_word n) a0 a1 a2 s0 s1 P
    | _, _ => none
set_option maxHeartbeats 2000000 in
set_option maxRecDepth 20000 in
theorem t_X11_word_0 {G : xG} {l : Launch} (hl : l.stackTraces = false) {n : Nat} {rec : Nat → List Value → xH → xO} (hrec : ∀ pc env P z, rec pc env P = some z → ∀ L st, lay_X11_word pc env = some (L, st) → ∀ Q : xR → xH → Prop, Q z.1 z.2 → Wp G l 6 mX11_word pc L st P Q) {a0 a1 a2} {P : xH} {z : xR × xH} (h : b_X11_word_0 n rec a0 a1 a2 P = some z) {Q : xR → xH → Prop} (hQ : Q z.1 z.2) : Wp G l 6 mX11_word 0 [some (.ref a0), some (.int a1), some (.int a2)] [] P Q := by
  unfold b_X11_word_0 at h
  refine x_aload_nr dX11_word_0 rfl ?_
  refine x_iconst 0 dX11_word_1 (by decide) ?_
  obtain ⟨P1, e2, h⟩ := Option.bind_eq_some_iff.mp h
  refine k_wI e2 dX11_word_2 f_X11_3 (Or.inl (by decide)) rfl ?_
  refine x_aload_nr dX11_word_5 rfl ?_
  refine x_aload_nr dX11_word_6 rfl ?_
  refine x_iload_n dX11_word_7 rfl ?_
  obtain ⟨_, e7, h⟩ := Option.bind_eq_some_iff.mp h
  obtain ⟨fse7, e7⟩ := kO_ok e7
  obtain ⟨r4, e5, h⟩ := Option.bind_eq_some_iff.mp h
  replace h := xI_ok h
  obtain ⟨v6, P3, rfl, h⟩ := h
  refine x_callV (c_X11_noWord hl e5) dX11_word_8 cw_X11_noWord wl_X11_322 wi_X11_noWord wse_X11_noWord rfl e7 (by decide) rfl (by omega) (by decide) rfl (Nat.le_of_ble_eq_true rfl) rfl (fun v9 P9 hq9 => ?_) (fun i9 P9 hq9 => by cases hq9)
  cases hq9
  refine x_iconst 1 dX11_word_11 (by decide) ?_
  obtain ⟨_, e12, h⟩ := Option.bind_eq_some_iff.mp h
  obtain ⟨fse12, e12⟩ := kO_ok e12
  obtain ⟨r9, e10, h⟩ := Option.bind_eq_some_iff.mp h
  replace h := xI_ok h
  obtain ⟨v11, P8, rfl, h⟩ := h
  refine x_callV (c_X11_throwsIf hl e10) dX11_word_12 cw_X11_throwsIf wl_X11_93 wi_X11_throwsIf wse_X11_throwsIf rfl e12 (by decide) rfl (by omega) (by decide) rfl (Nat.le_of_ble_eq_true rfl) rfl (fun v9 P9 hq9 => ?_) (fun i9 P9 hq9 => by cases hq9)
  cases hq9
  refine x_if_ne 41 dX11_word_15 (by decide) (fun q18 => ?_) (fun q18 => ?_)
  · rw [if_pos q18] at h
    refine x_iconst 0 dX11_word_41 (by decide) ?_
    cases h
    exact x_iret .int rfl rfl dX11_word_42 hQ
  · rw [if_neg (fun z9 => z9 q18)] at h
    refine x_aload_nr dX11_word_18 rfl ?_
    refine x_iload_n dX11_word_19 rfl ?_
    refine x_iconst 0 dX11_word_20 (by decide) ?_
    refine x_bipush 10 dX11_word_21 (by decide) ?_
    obtain ⟨r14, e15, h⟩ := Option.bind_eq_some_iff.mp h
    replace h := xI_ok h
    obtain ⟨v16, P13, rfl, h⟩ := h
    refine x_callS (c_X11_in hl e15) dX11_word_23 cw_X11_in wl_X11_68 ws_X11_in rfl (by omega) (by decide) rfl (Nat.le_of_ble_eq_true rfl) rfl (fun v9 P9 hq9 => ?_) (fun i9 P9 hq9 => by cases hq9)
    cases hq9
    refine x_if_ne 33 dX11_word_26 (by decide) (fun q17 => ?_) (fun q17 => ?_)
    · rw [if_pos q17] at h
      refine x_iconst 0 dX11_word_33 (by decide) ?_
      exact Wp.mask [true, true, true] (hrec 34 _ _ _ h _ _ rfl _ hQ)
    · rw [if_neg (fun z9 => z9 q17)] at h
      refine x_iconst 1 dX11_word_29 (by decide) ?_
      refine x_goto 34 dX11_word_30 (by decide) ?_
      exact Wp.mask [true, true, true] (hrec 34 _ _ _ h _ _ rfl _ hQ)
set_option maxHeartbeats 2000000 in
set_option maxRecDepth 20000 in
theorem t_X11_word_34 {G : xG} {l : Launch} (hl : l.stackTraces = false) {n : Nat} {rec : Nat → List Value → xH → xO} (hrec : ∀ pc env P z, rec pc env P = some z → ∀ L st, lay_X11_word pc env = some (L, st) → ∀ Q : xR → xH → Prop, Q z.1 z.2 → Wp G l 6 mX11_word pc L st P Q) {a0 a1 a2 s0 s1} {P : xH} {z : xR × xH} (h : b_X11_word_34 n rec a0 a1 a2 s0 s1 P = some z) {Q : xR → xH → Prop} (hQ : Q z.1 z.2) : Wp G l 6 mX11_word 34 [some (.ref a0), some (.int a1), some (.int a2)] [.int s1, .ref s0] P Q := by
  unfold b_X11_word_34 at h
  refine x_iconst 2 dX11_word_34 (by decide) ?_
  obtain ⟨_, e5, h⟩ := Option.bind_eq_some_iff.mp h
  obtain ⟨fse5, e5⟩ := kO_ok e5
  obtain ⟨r2, e3, h⟩ := Option.bind_eq_some_iff.mp h
  replace h := xI_ok h
  obtain ⟨v4, P1, rfl, h⟩ := h
  refine x_callV (c_X11_throwsIf hl e3) dX11_word_35 cw_X11_throwsIf wl_X11_93 wi_X11_throwsIf wse_X11_throwsIf rfl e5 (by decide) rfl (by omega) (by decide) rfl (Nat.le_of_ble_eq_true rfl) rfl (fun v9 P9 hq9 => ?_) (fun i9 P9 hq9 => by cases hq9)
  cases hq9
  refine x_if_eq 43 dX11_word_38 (by decide) (fun q24 => ?_) (fun q24 => ?_)
  · rw [if_pos q24] at h
    refine x_iload_n dX11_word_43 rfl ?_
    refine x_bipush 9 dX11_word_44 (by decide) ?_
    refine x_icmp_ne 57 dX11_word_46 (by decide) (fun q23 => ?_) (fun q23 => ?_)
    · rw [if_pos q23] at h
      refine x_iload_n dX11_word_57 rfl ?_
      refine x_bipush 10 dX11_word_58 (by decide) ?_
      refine x_icmp_ne 79 dX11_word_60 (by decide) (fun q17 => ?_) (fun q17 => ?_)
      · rw [if_pos q17] at h
        refine x_aload_nr dX11_word_79 rfl ?_
        refine x_iload_n dX11_word_80 rfl ?_
        refine x_iload_n dX11_word_81 rfl ?_
        obtain ⟨_, e10, h⟩ := Option.bind_eq_some_iff.mp h
        obtain ⟨fse10, e10⟩ := kO_ok e10
        obtain ⟨r7, e8, h⟩ := Option.bind_eq_some_iff.mp h
        replace h := xI_ok h
        obtain ⟨v9, P6, rfl, h⟩ := h
        refine x_callV (c_X11_of hl e8) dX11_word_82 cw_X11_of wl_X11_240 wi_X11_of wse_X11_of rfl e10 (by decide) rfl (by omega) (by decide) rfl (Nat.le_of_ble_eq_true rfl) rfl (fun v9 P9 hq9 => ?_) (fun i9 P9 hq9 => by cases hq9)
        cases hq9
        cases h
        exact x_iret .int rfl rfl dX11_word_85 hQ
      · rw [if_neg (fun z9 => z9 q17)] at h
        refine x_aload_nr dX11_word_63 rfl ?_
        refine x_iload_n dX11_word_64 rfl ?_
        obtain ⟨_, e15, h⟩ := Option.bind_eq_some_iff.mp h
        obtain ⟨fse15, e15⟩ := kO_ok e15
        obtain ⟨r12, e13, h⟩ := Option.bind_eq_some_iff.mp h
        replace h := xI_ok h
        obtain ⟨v14, P11, rfl, h⟩ := h
        refine x_callV (c_X11_isDead hl e13) dX11_word_65 cw_X11_isDead wl_X11_300 wi_X11_isDead wse_X11_isDead rfl e15 (by decide) rfl (by omega) (by decide) rfl (Nat.le_of_ble_eq_true rfl) rfl (fun v9 P9 hq9 => ?_) (fun i9 P9 hq9 => by cases hq9)
        cases hq9
        refine x_if_eq 75 dX11_word_68 (by decide) (fun q16 => ?_) (fun q16 => ?_)
        · rw [if_pos q16] at h
          refine x_iconst 0 dX11_word_75 (by decide) ?_
          refine x_goto 85 dX11_word_76 (by decide) ?_
          cases h
          exact x_iret .int rfl rfl dX11_word_85 hQ
        · rw [if_neg q16] at h
          refine x_iconst 1 dX11_word_71 (by decide) ?_
          refine x_goto 85 dX11_word_72 (by decide) ?_
          cases h
          exact x_iret .int rfl rfl dX11_word_85 hQ
    · rw [if_neg (fun z9 => z9 q23)] at h
      refine x_aload_nr dX11_word_49 rfl ?_
      refine x_iload_n dX11_word_50 rfl ?_
      obtain ⟨_, e22, h⟩ := Option.bind_eq_some_iff.mp h
      obtain ⟨fse22, e22⟩ := kO_ok e22
      obtain ⟨r19, e20, h⟩ := Option.bind_eq_some_iff.mp h
      replace h := xI_ok h
      obtain ⟨v21, P18, rfl, h⟩ := h
      refine x_callV (c_X11_haveOf hl e20) dX11_word_51 cw_X11_haveOf wl_X11_243 wi_X11_haveOf wse_X11_haveOf rfl e22 (by decide) rfl (by omega) (by decide) rfl (Nat.le_of_ble_eq_true rfl) rfl (fun v9 P9 hq9 => ?_) (fun i9 P9 hq9 => by cases hq9)
      cases hq9
      refine x_goto 85 dX11_word_54 (by decide) ?_
      cases h
      exact x_iret .int rfl rfl dX11_word_85 hQ
  · rw [if_neg q24] at h
    refine x_iconst 0 dX11_word_41 (by decide) ?_
    cases h
    exact x_iret .int rfl rfl dX11_word_42 hQ
theorem s_X11_word {G : xG} {l : Launch} (hl : l.stackTraces = false) : ∀ n pc env P z, f_X11_word n pc env P = some z → ∀ L st, lay_X11_word pc env = some (L, st) → ∀ Q : xR → xH → Prop, Q z.1 z.2 → Wp G l 6 mX11_word pc L st P Q := by
  intro n
  induction n with
  | zero => intro pc env P z h; cases h
  | succ n ih =>
    intro pc env P z h L st hlay Q hQ
    unfold f_X11_word at h
    split at h
    · cases hlay
      exact t_X11_word_0 hl ih h hQ
    · cases hlay
      exact t_X11_word_34 hl ih h hQ
    · cases h
theorem c_X11_word {G : xG} {l : Launch} (hl : l.stackTraces = false) {n : Nat} {as : List Value} {P : xH} {z : xR × xH} (h : f_X11_word n 0 as P = some z) : Ct G l 6 mX11_word as P (fun r P1 => (r, P1) = z) := by
  cases n with
  | zero => cases h
  | succ n =>
    unfold f_X11_word at h
    split at h
    · exact Ct.of hl (by decide +kernel) wc_X11_word (Nat.le_of_ble_eq_true rfl) (t_X11_word_0 hl (s_X11_word hl _) h rfl)
    all_goals first | (cases h; done) | (rename_i q9 _; exact absurd q9 (by decide)) | (rename_i q9; exact absurd q9 (by decide)) | contradiction
/-! QuakeNetModel.had(I)I -/
def b_X11_had_0 (n : Nat) (rec : Nat → List Value → xH → xO) (a0 : Nat) (a1 : Int32) (P : xH) : xO :=
  (wV P a0 11 0 (.int 0)).bind fun P1 =>
  (kO P1 a0 11).bind fun _ =>
  (f_X11_noWord n 0 [.ref a0, .int a1] P1).bind fun r4 => xI r4 fun v6 P3 =>
  (kO P3 a0 11).bind fun _ =>
  (f_X11_throwsIf n 0 [.ref a0, .int v6, .int 1] P3).bind fun r9 => xI r9 fun v11 P8 =>
  if v11 = 0 then
    (rA P8 a0 11 1).bind fun v13 =>
    (f_X11_hadAt n 0 [.int a1, .int 0] P8).bind fun r16 => xI r16 fun v18 P15 =>
    (aI P15 v13 v18).bind fun v19 =>
    some (.inl (some (.int v19)), P15)
  else
    some (.inl (some (.int 0)), P8)
def lay_X11_had : Nat → List Value → Option (xL × List Value)
  | 0, [a0, a1] => some ([some a0, some a1], [])
  | _, _ => none
def f_X11_had : Nat → Nat → List Value → xH → xO
  | 0 => fun _ _ _ => none
  | n + 1 => fun pc env P => match pc, env with
    | 0, [.ref a0, .int a1] => b_X11_had_0 n (f_X11_had n) a0 a1 P
    | _, _ => none
set_option maxHeartbeats 2000000 in
set_option maxRecDepth 20000 in
theorem t_X11_had_0 {G : xG} {l : Launch} (hl : l.stackTraces = false) {n : Nat} {rec : Nat → List Value → xH → xO} (hrec : ∀ pc env P z, rec pc env P = some z → ∀ L st, lay_X11_had pc env = some (L, st) → ∀ Q : xR → xH → Prop, Q z.1 z.2 → Wp G l 5 mX11_had pc L st P Q) {a0 a1} {P : xH} {z : xR × xH} (h : b_X11_had_0 n rec a0 a1 P = some z) {Q : xR → xH → Prop} (hQ : Q z.1 z.2) : Wp G l 5 mX11_had 0 [some (.ref a0), some (.int a1)] [] P Q := by
  unfold b_X11_had_0 at h
  refine x_aload_nr dX11_had_0 rfl ?_
  refine x_iconst 0 dX11_had_1 (by decide) ?_
  obtain ⟨P1, e2, h⟩ := Option.bind_eq_some_iff.mp h
  refine k_wI e2 dX11_had_2 f_X11_3 (Or.inl (by decide)) rfl ?_
  refine x_aload_nr dX11_had_5 rfl ?_
  refine x_aload_nr dX11_had_6 rfl ?_
  refine x_iload_n dX11_had_7 rfl ?_
  obtain ⟨_, e7, h⟩ := Option.bind_eq_some_iff.mp h
  obtain ⟨fse7, e7⟩ := kO_ok e7
  obtain ⟨r4, e5, h⟩ := Option.bind_eq_some_iff.mp h
  replace h := xI_ok h
  obtain ⟨v6, P3, rfl, h⟩ := h
  refine x_callV (c_X11_noWord hl e5) dX11_had_8 cw_X11_noWord wl_X11_322 wi_X11_noWord wse_X11_noWord rfl e7 (by decide) rfl (by omega) (by decide) rfl (Nat.le_of_ble_eq_true rfl) rfl (fun v9 P9 hq9 => ?_) (fun i9 P9 hq9 => by cases hq9)
  cases hq9
  refine x_iconst 1 dX11_had_11 (by decide) ?_
  obtain ⟨_, e12, h⟩ := Option.bind_eq_some_iff.mp h
  obtain ⟨fse12, e12⟩ := kO_ok e12
  obtain ⟨r9, e10, h⟩ := Option.bind_eq_some_iff.mp h
  replace h := xI_ok h
  obtain ⟨v11, P8, rfl, h⟩ := h
  refine x_callV (c_X11_throwsIf hl e10) dX11_had_12 cw_X11_throwsIf wl_X11_93 wi_X11_throwsIf wse_X11_throwsIf rfl e12 (by decide) rfl (by omega) (by decide) rfl (Nat.le_of_ble_eq_true rfl) rfl (fun v9 P9 hq9 => ?_) (fun i9 P9 hq9 => by cases hq9)
  cases hq9
  refine x_if_eq 22 dX11_had_15 (by decide) (fun q21 => ?_) (fun q21 => ?_)
  · rw [if_pos q21] at h
    refine x_aload_nr dX11_had_22 rfl ?_
    obtain ⟨v13, e14, h⟩ := Option.bind_eq_some_iff.mp h
    refine k_rA e14 dX11_had_23 f_X11_13 ?_
    refine x_iload_n dX11_had_26 rfl ?_
    refine x_iconst 0 dX11_had_27 (by decide) ?_
    obtain ⟨r16, e17, h⟩ := Option.bind_eq_some_iff.mp h
    replace h := xI_ok h
    obtain ⟨v18, P15, rfl, h⟩ := h
    refine x_callS (c_X11_hadAt hl e17) dX11_had_28 cw_X11_hadAt wl_X11_261 ws_X11_hadAt rfl (by omega) (by decide) rfl (Nat.le_of_ble_eq_true rfl) rfl (fun v9 P9 hq9 => ?_) (fun i9 P9 hq9 => by cases hq9)
    cases hq9
    obtain ⟨v19, e20, h⟩ := Option.bind_eq_some_iff.mp h
    refine k_aI e20 dX11_had_31 ?_
    cases h
    exact x_iret .int rfl rfl dX11_had_32 hQ
  · rw [if_neg q21] at h
    refine x_iconst 0 dX11_had_18 (by decide) ?_
    refine x_goto 32 dX11_had_19 (by decide) ?_
    cases h
    exact x_iret .int rfl rfl dX11_had_32 hQ
theorem s_X11_had {G : xG} {l : Launch} (hl : l.stackTraces = false) : ∀ n pc env P z, f_X11_had n pc env P = some z → ∀ L st, lay_X11_had pc env = some (L, st) → ∀ Q : xR → xH → Prop, Q z.1 z.2 → Wp G l 5 mX11_had pc L st P Q := by
  intro n
  induction n with
  | zero => intro pc env P z h; cases h
  | succ n ih =>
    intro pc env P z h L st hlay Q hQ
    unfold f_X11_had at h
    split at h
    · cases hlay
      exact t_X11_had_0 hl ih h hQ
    · cases h
theorem c_X11_had {G : xG} {l : Launch} (hl : l.stackTraces = false) {n : Nat} {as : List Value} {P : xH} {z : xR × xH} (h : f_X11_had n 0 as P = some z) : Ct G l 5 mX11_had as P (fun r P1 => (r, P1) = z) := by
  cases n with
  | zero => cases h
  | succ n =>
    unfold f_X11_had at h
    split at h
    · exact Ct.of hl (by decide +kernel) wc_X11_had (Nat.le_of_ble_eq_true rfl) (t_X11_had_0 hl (s_X11_had hl _) h rfl)
    all_goals first | (cases h; done) | (rename_i q9 _; exact absurd q9 (by decide)) | (rename_i q9; exact absurd q9 (by decide)) | contradiction
/-! QuakeNetModel.wayOf(II)I -/
def b_X11_wayOf_0 (n : Nat) (rec : Nat → List Value → xH → xO) (a0 : Nat) (a1 : Int32) (a2 : Int32) (P : xH) : xO :=
  (rA P a0 11 1).bind fun v1 =>
  (f_X11_hadAt n 0 [.int a1, .int 4] P).bind fun r4 => xI r4 fun v6 P3 =>
  (aI P3 v1 v6).bind fun v7 =>
  (rA P3 a0 11 1).bind fun v9 =>
  (f_X11_hadAt n 0 [.int a1, .int 0] P3).bind fun r12 => xI r12 fun v14 P11 =>
  (aI P11 v9 v14).bind fun v15 =>
  if 0 ≤ v15 then
    if ¬ v7 = 0 then
      (f_X11_in n 0 [.int a2, .int 0, .int ((v7 - 1))] P11).bind fun r18 => xI r18 fun v20 P17 =>
      if ¬ v20 = 0 then
        if 7 ≤ a2 then
          (rA P17 a0 11 1).bind fun v21 =>
          (f_X11_hadAt n 0 [.int a1, .int 3] P17).bind fun r24 => xI r24 fun v26 P23 =>
          (aI P23 v21 v26).bind fun v27 =>
          some (.inl (some (.int ((((v27 >>> (((4 * ((a2 - 7)))) &&& 31))) &&& 15)))), P23)
        else
          (rA P17 a0 11 1).bind fun v29 =>
          (f_X11_hadAt n 0 [.int a1, .int 2] P17).bind fun r32 => xI r32 fun v34 P31 =>
          (aI P31 v29 v34).bind fun v35 =>
          some (.inl (some (.int ((((v35 >>> (((4 * a2)) &&& 31))) &&& 15)))), P31)
      else
        some (.inl (some (.int ((-1)))), P17)
    else
      if ¬ a2 = 0 then
        some (.inl (some (.int ((-1)))), P11)
      else
        some (.inl (some (.int 0)), P11)
  else
    some (.inl (some (.int ((-1)))), P11)
def lay_X11_wayOf : Nat → List Value → Option (xL × List Value)
  | 0, [a0, a1, a2] => some ([some a0, some a1, some a2, none], [])
  | _, _ => none
def f_X11_wayOf : Nat → Nat → List Value → xH → xO
  | 0 => fun _ _ _ => none
  | n + 1 => fun pc env P => match pc, env with
    | 0, [.ref a0, .int a1, .int a2] => b_X11_wayOf_0 n (f_X11_wayOf n) a0 a1 a2 P
    | _, _ => none
set_option maxHeartbeats 2000000 in
set_option maxRecDepth 20000 in
theorem t_X11_wayOf_0 {G : xG} {l : Launch} (hl : l.stackTraces = false) {n : Nat} {rec : Nat → List Value → xH → xO} (hrec : ∀ pc env P z, rec pc env P = some z → ∀ L st, lay_X11_wayOf pc env = some (L, st) → ∀ Q : xR → xH → Prop, Q z.1 z.2 → Wp G l 4 mX11_wayOf pc L st P Q) {a0 a1 a2} {P : xH} {z : xR × xH} (h : b_X11_wayOf_0 n rec a0 a1 a2 P = some z) {Q : xR → xH → Prop} (hQ : Q z.1 z.2) : Wp G l 4 mX11_wayOf 0 [some (.ref a0), some (.int a1), some (.int a2), none] [] P Q := by
  unfold b_X11_wayOf_0 at h
  refine x_aload_nr dX11_wayOf_0 rfl ?_
  obtain ⟨v1, e2, h⟩ := Option.bind_eq_some_iff.mp h
  refine k_rA e2 dX11_wayOf_1 f_X11_13 ?_
  refine x_iload_n dX11_wayOf_4 rfl ?_
  refine x_iconst 4 dX11_wayOf_5 (by decide) ?_
  obtain ⟨r4, e5, h⟩ := Option.bind_eq_some_iff.mp h
  replace h := xI_ok h
  obtain ⟨v6, P3, rfl, h⟩ := h
  refine x_callS (c_X11_hadAt hl e5) dX11_wayOf_6 cw_X11_hadAt wl_X11_261 ws_X11_hadAt rfl (by omega) (by decide) rfl (Nat.le_of_ble_eq_true rfl) rfl (fun v9 P9 hq9 => ?_) (fun i9 P9 hq9 => by cases hq9)
  cases hq9
  obtain ⟨v7, e8, h⟩ := Option.bind_eq_some_iff.mp h
  refine k_aI e8 dX11_wayOf_9 ?_
  refine x_istore_n dX11_wayOf_10 (Nat.le_of_ble_eq_true rfl) ?_
  refine x_aload_nr dX11_wayOf_11 rfl ?_
  obtain ⟨v9, e10, h⟩ := Option.bind_eq_some_iff.mp h
  refine k_rA e10 dX11_wayOf_12 f_X11_13 ?_
  refine x_iload_n dX11_wayOf_15 rfl ?_
  refine x_iconst 0 dX11_wayOf_16 (by decide) ?_
  obtain ⟨r12, e13, h⟩ := Option.bind_eq_some_iff.mp h
  replace h := xI_ok h
  obtain ⟨v14, P11, rfl, h⟩ := h
  refine x_callS (c_X11_hadAt hl e13) dX11_wayOf_17 cw_X11_hadAt wl_X11_261 ws_X11_hadAt rfl (by omega) (by decide) rfl (Nat.le_of_ble_eq_true rfl) rfl (fun v9 P9 hq9 => ?_) (fun i9 P9 hq9 => by cases hq9)
  cases hq9
  obtain ⟨v15, e16, h⟩ := Option.bind_eq_some_iff.mp h
  refine k_aI e16 dX11_wayOf_20 ?_
  refine x_if_ge 26 dX11_wayOf_21 (by decide) (fun q41 => ?_) (fun q41 => ?_)
  · rw [if_pos q41] at h
    refine x_iload_n dX11_wayOf_26 rfl ?_
    refine x_if_ne 40 dX11_wayOf_27 (by decide) (fun q40 => ?_) (fun q40 => ?_)
    · rw [if_pos q40] at h
      refine x_iload_n dX11_wayOf_40 rfl ?_
      refine x_iconst 0 dX11_wayOf_41 (by decide) ?_
      refine x_iload_n dX11_wayOf_42 rfl ?_
      refine x_iconst 1 dX11_wayOf_43 (by decide) ?_
      refine x_isub dX11_wayOf_44 ?_
      obtain ⟨r18, e19, h⟩ := Option.bind_eq_some_iff.mp h
      replace h := xI_ok h
      obtain ⟨v20, P17, rfl, h⟩ := h
      refine x_callS (c_X11_in hl e19) dX11_wayOf_45 cw_X11_in wl_X11_68 ws_X11_in rfl (by omega) (by decide) rfl (Nat.le_of_ble_eq_true rfl) rfl (fun v9 P9 hq9 => ?_) (fun i9 P9 hq9 => by cases hq9)
      cases hq9
      refine x_if_ne 55 dX11_wayOf_48 (by decide) (fun q38 => ?_) (fun q38 => ?_)
      · rw [if_pos q38] at h
        refine x_iload_n dX11_wayOf_55 rfl ?_
        refine x_bipush 7 dX11_wayOf_56 (by decide) ?_
        refine x_icmp_ge 81 dX11_wayOf_58 (by decide) (fun q37 => ?_) (fun q37 => ?_)
        · rw [if_pos q37] at h
          refine x_aload_nr dX11_wayOf_81 rfl ?_
          obtain ⟨v21, e22, h⟩ := Option.bind_eq_some_iff.mp h
          refine k_rA e22 dX11_wayOf_82 f_X11_13 ?_
          refine x_iload_n dX11_wayOf_85 rfl ?_
          refine x_iconst 3 dX11_wayOf_86 (by decide) ?_
          obtain ⟨r24, e25, h⟩ := Option.bind_eq_some_iff.mp h
          replace h := xI_ok h
          obtain ⟨v26, P23, rfl, h⟩ := h
          refine x_callS (c_X11_hadAt hl e25) dX11_wayOf_87 cw_X11_hadAt wl_X11_261 ws_X11_hadAt rfl (by omega) (by decide) rfl (Nat.le_of_ble_eq_true rfl) rfl (fun v9 P9 hq9 => ?_) (fun i9 P9 hq9 => by cases hq9)
          cases hq9
          obtain ⟨v27, e28, h⟩ := Option.bind_eq_some_iff.mp h
          refine k_aI e28 dX11_wayOf_90 ?_
          refine x_iconst 4 dX11_wayOf_91 (by decide) ?_
          refine x_iload_n dX11_wayOf_92 rfl ?_
          refine x_bipush 7 dX11_wayOf_93 (by decide) ?_
          refine x_isub dX11_wayOf_95 ?_
          refine x_imul dX11_wayOf_96 ?_
          refine x_ishr dX11_wayOf_97 ?_
          refine x_bipush 15 dX11_wayOf_98 (by decide) ?_
          refine x_iand dX11_wayOf_100 ?_
          cases h
          exact x_iret .int rfl rfl dX11_wayOf_101 hQ
        · rw [if_neg q37] at h
          refine x_aload_nr dX11_wayOf_61 rfl ?_
          obtain ⟨v29, e30, h⟩ := Option.bind_eq_some_iff.mp h
          refine k_rA e30 dX11_wayOf_62 f_X11_13 ?_
          refine x_iload_n dX11_wayOf_65 rfl ?_
          refine x_iconst 2 dX11_wayOf_66 (by decide) ?_
          obtain ⟨r32, e33, h⟩ := Option.bind_eq_some_iff.mp h
          replace h := xI_ok h
          obtain ⟨v34, P31, rfl, h⟩ := h
          refine x_callS (c_X11_hadAt hl e33) dX11_wayOf_67 cw_X11_hadAt wl_X11_261 ws_X11_hadAt rfl (by omega) (by decide) rfl (Nat.le_of_ble_eq_true rfl) rfl (fun v9 P9 hq9 => ?_) (fun i9 P9 hq9 => by cases hq9)
          cases hq9
          obtain ⟨v35, e36, h⟩ := Option.bind_eq_some_iff.mp h
          refine k_aI e36 dX11_wayOf_70 ?_
          refine x_iconst 4 dX11_wayOf_71 (by decide) ?_
          refine x_iload_n dX11_wayOf_72 rfl ?_
          refine x_imul dX11_wayOf_73 ?_
          refine x_ishr dX11_wayOf_74 ?_
          refine x_bipush 15 dX11_wayOf_75 (by decide) ?_
          refine x_iand dX11_wayOf_77 ?_
          refine x_goto 101 dX11_wayOf_78 (by decide) ?_
          cases h
          exact x_iret .int rfl rfl dX11_wayOf_101 hQ
      · rw [if_neg (fun z9 => z9 q38)] at h
        refine x_iconst (-1) dX11_wayOf_51 (by decide) ?_
        refine x_goto 101 dX11_wayOf_52 (by decide) ?_
        cases h
        exact x_iret .int rfl rfl dX11_wayOf_101 hQ
    · rw [if_neg (fun z9 => z9 q40)] at h
      refine x_iload_n dX11_wayOf_30 rfl ?_
      refine x_if_ne 38 dX11_wayOf_31 (by decide) (fun q39 => ?_) (fun q39 => ?_)
      · rw [if_pos q39] at h
        refine x_iconst (-1) dX11_wayOf_38 (by decide) ?_
        cases h
        exact x_iret .int rfl rfl dX11_wayOf_39 hQ
      · rw [if_neg (fun z9 => z9 q39)] at h
        refine x_iconst 0 dX11_wayOf_34 (by decide) ?_
        refine x_goto 39 dX11_wayOf_35 (by decide) ?_
        cases h
        exact x_iret .int rfl rfl dX11_wayOf_39 hQ
  · rw [if_neg q41] at h
    refine x_iconst (-1) dX11_wayOf_24 (by decide) ?_
    cases h
    exact x_iret .int rfl rfl dX11_wayOf_25 hQ
theorem s_X11_wayOf {G : xG} {l : Launch} (hl : l.stackTraces = false) : ∀ n pc env P z, f_X11_wayOf n pc env P = some z → ∀ L st, lay_X11_wayOf pc env = some (L, st) → ∀ Q : xR → xH → Prop, Q z.1 z.2 → Wp G l 4 mX11_wayOf pc L st P Q := by
  intro n
  induction n with
  | zero => intro pc env P z h; cases h
  | succ n ih =>
    intro pc env P z h L st hlay Q hQ
    unfold f_X11_wayOf at h
    split at h
    · cases hlay
      exact t_X11_wayOf_0 hl ih h hQ
    · cases h
theorem c_X11_wayOf {G : xG} {l : Launch} (hl : l.stackTraces = false) {n : Nat} {as : List Value} {P : xH} {z : xR × xH} (h : f_X11_wayOf n 0 as P = some z) : Ct G l 4 mX11_wayOf as P (fun r P1 => (r, P1) = z) := by
  cases n with
  | zero => cases h
  | succ n =>
    unfold f_X11_wayOf at h
    split at h
    · exact Ct.of hl (by decide +kernel) wc_X11_wayOf (Nat.le_of_ble_eq_true rfl) (t_X11_wayOf_0 hl (s_X11_wayOf hl _) h rfl)
    all_goals first | (cases h; done) | (rename_i q9 _; exact absurd q9 (by decide)) | (rename_i q9; exact absurd q9 (by decide)) | contradiction
/-! QuakeNetModel.way(II)I -/
def b_X11_way_0 (n : Nat) (rec : Nat → List Value → xH → xO) (a0 : Nat) (a1 : Int32) (a2 : Int32) (P : xH) : xO :=
  (wV P a0 11 0 (.int 0)).bind fun P1 =>
  (kO P1 a0 11).bind fun _ =>
  (f_X11_noWord n 0 [.ref a0, .int a1] P1).bind fun r4 => xI r4 fun v6 P3 =>
  (kO P3 a0 11).bind fun _ =>
  (f_X11_throwsIf n 0 [.ref a0, .int v6, .int 1] P3).bind fun r9 => xI r9 fun v11 P8 =>
  if v11 = 0 then
    (kO P8 a0 11).bind fun _ =>
    (f_X11_wayOf n 0 [.ref a0, .int a1, .int a2] P8).bind fun r14 => xI r14 fun v16 P13 =>
    some (.inl (some (.int v16)), P13)
  else
    some (.inl (some (.int 0)), P8)
def lay_X11_way : Nat → List Value → Option (xL × List Value)
  | 0, [a0, a1, a2] => some ([some a0, some a1, some a2], [])
  | _, _ => none
def f_X11_way : Nat → Nat → List Value → xH → xO
  | 0 => fun _ _ _ => none
  | n + 1 => fun pc env P => match pc, env with
    | 0, [.ref a0, .int a1, .int a2] => b_X11_way_0 n (f_X11_way n) a0 a1 a2 P
    | _, _ => none
set_option maxHeartbeats 2000000 in
set_option maxRecDepth 20000 in
theorem t_X11_way_0 {G : xG} {l : Launch} (hl : l.stackTraces = false) {n : Nat} {rec : Nat → List Value → xH → xO} (hrec : ∀ pc env P z, rec pc env P = some z → ∀ L st, lay_X11_way pc env = some (L, st) → ∀ Q : xR → xH → Prop, Q z.1 z.2 → Wp G l 5 mX11_way pc L st P Q) {a0 a1 a2} {P : xH} {z : xR × xH} (h : b_X11_way_0 n rec a0 a1 a2 P = some z) {Q : xR → xH → Prop} (hQ : Q z.1 z.2) : Wp G l 5 mX11_way 0 [some (.ref a0), some (.int a1), some (.int a2)] [] P Q := by
  unfold b_X11_way_0 at h
  refine x_aload_nr dX11_way_0 rfl ?_
  refine x_iconst 0 dX11_way_1 (by decide) ?_
  obtain ⟨P1, e2, h⟩ := Option.bind_eq_some_iff.mp h
  refine k_wI e2 dX11_way_2 f_X11_3 (Or.inl (by decide)) rfl ?_
  refine x_aload_nr dX11_way_5 rfl ?_
  refine x_aload_nr dX11_way_6 rfl ?_
  refine x_iload_n dX11_way_7 rfl ?_
  obtain ⟨_, e7, h⟩ := Option.bind_eq_some_iff.mp h
  obtain ⟨fse7, e7⟩ := kO_ok e7
  obtain ⟨r4, e5, h⟩ := Option.bind_eq_some_iff.mp h
  replace h := xI_ok h
  obtain ⟨v6, P3, rfl, h⟩ := h
  refine x_callV (c_X11_noWord hl e5) dX11_way_8 cw_X11_noWord wl_X11_322 wi_X11_noWord wse_X11_noWord rfl e7 (by decide) rfl (by omega) (by decide) rfl (Nat.le_of_ble_eq_true rfl) rfl (fun v9 P9 hq9 => ?_) (fun i9 P9 hq9 => by cases hq9)
  cases hq9
  refine x_iconst 1 dX11_way_11 (by decide) ?_
  obtain ⟨_, e12, h⟩ := Option.bind_eq_some_iff.mp h
  obtain ⟨fse12, e12⟩ := kO_ok e12
  obtain ⟨r9, e10, h⟩ := Option.bind_eq_some_iff.mp h
  replace h := xI_ok h
  obtain ⟨v11, P8, rfl, h⟩ := h
  refine x_callV (c_X11_throwsIf hl e10) dX11_way_12 cw_X11_throwsIf wl_X11_93 wi_X11_throwsIf wse_X11_throwsIf rfl e12 (by decide) rfl (by omega) (by decide) rfl (Nat.le_of_ble_eq_true rfl) rfl (fun v9 P9 hq9 => ?_) (fun i9 P9 hq9 => by cases hq9)
  cases hq9
  refine x_if_eq 22 dX11_way_15 (by decide) (fun q18 => ?_) (fun q18 => ?_)
  · rw [if_pos q18] at h
    refine x_aload_nr dX11_way_22 rfl ?_
    refine x_iload_n dX11_way_23 rfl ?_
    refine x_iload_n dX11_way_24 rfl ?_
    obtain ⟨_, e17, h⟩ := Option.bind_eq_some_iff.mp h
    obtain ⟨fse17, e17⟩ := kO_ok e17
    obtain ⟨r14, e15, h⟩ := Option.bind_eq_some_iff.mp h
    replace h := xI_ok h
    obtain ⟨v16, P13, rfl, h⟩ := h
    refine x_callV (c_X11_wayOf hl e15) dX11_way_25 cw_X11_wayOf wl_X11_325 wi_X11_wayOf wse_X11_wayOf rfl e17 (by decide) rfl (by omega) (by decide) rfl (Nat.le_of_ble_eq_true rfl) rfl (fun v9 P9 hq9 => ?_) (fun i9 P9 hq9 => by cases hq9)
    cases hq9
    cases h
    exact x_iret .int rfl rfl dX11_way_28 hQ
  · rw [if_neg q18] at h
    refine x_iconst 0 dX11_way_18 (by decide) ?_
    refine x_goto 28 dX11_way_19 (by decide) ?_
    cases h
    exact x_iret .int rfl rfl dX11_way_28 hQ
theorem s_X11_way {G : xG} {l : Launch} (hl : l.stackTraces = false) : ∀ n pc env P z, f_X11_way n pc env P = some z → ∀ L st, lay_X11_way pc env = some (L, st) → ∀ Q : xR → xH → Prop, Q z.1 z.2 → Wp G l 5 mX11_way pc L st P Q := by
  intro n
  induction n with
  | zero => intro pc env P z h; cases h
  | succ n ih =>
    intro pc env P z h L st hlay Q hQ
    unfold f_X11_way at h
    split at h
    · cases hlay
      exact t_X11_way_0 hl ih h hQ
    · cases h
theorem c_X11_way {G : xG} {l : Launch} (hl : l.stackTraces = false) {n : Nat} {as : List Value} {P : xH} {z : xR × xH} (h : f_X11_way n 0 as P = some z) : Ct G l 5 mX11_way as P (fun r P1 => (r, P1) = z) := by
  cases n with
  | zero => cases h
  | succ n =>
    unfold f_X11_way at h
    split at h
    · exact Ct.of hl (by decide +kernel) wc_X11_way (Nat.le_of_ble_eq_true rfl) (t_X11_way_0 hl (s_X11_way hl _) h rfl)
    all_goals first | (cases h; done) | (rename_i q9 _; exact absurd q9 (by decide)) | (rename_i q9; exact absurd q9 (by decide)) | contradiction
/-! QuakeNetModel.late(I)I -/
def b_X11_late_0 (n : Nat) (rec : Nat → List Value → xH → xO) (a0 : Nat) (a1 : Int32) (P : xH) : xO :=
  (wV P a0 11 0 (.int 0)).bind fun P1 =>
  (kO P1 a0 11).bind fun _ =>
  (f_X11_noWord n 0 [.ref a0, .int a1] P1).bind fun r4 => xI r4 fun v6 P3 =>
  (kO P3 a0 11).bind fun _ =>
  (f_X11_throwsIf n 0 [.ref a0, .int v6, .int 1] P3).bind fun r9 => xI r9 fun v11 P8 =>
  if v11 = 0 then
    (rA P8 a0 11 1).bind fun v13 =>
    (f_X11_hadAt n 0 [.int a1, .int 0] P8).bind fun r16 => xI r16 fun v18 P15 =>
    (aI P15 v13 v18).bind fun v19 =>
    if 0 ≤ v19 then
      (kO P15 a0 11).bind fun _ =>
      (f_X11_of n 0 [.ref a0, .int a1, .int 2] P15).bind fun r22 => xI r22 fun v24 P21 =>
      some (.inl (some (.int ((v19 - v24)))), P21)
    else
      some (.inl (some (.int ((-1)))), P15)
  else
    some (.inl (some (.int 0)), P8)
def lay_X11_late : Nat → List Value → Option (xL × List Value)
  | 0, [a0, a1] => some ([some a0, some a1, none], [])
  | _, _ => none
def f_X11_late : Nat → Nat → List Value → xH → xO
  | 0 => fun _ _ _ => none
  | n + 1 => fun pc env P => match pc, env with
    | 0, [.ref a0, .int a1] => b_X11_late_0 n (f_X11_late n) a0 a1 P
    | _, _ => none
set_option maxHeartbeats 2000000 in
set_option maxRecDepth 20000 in
theorem t_X11_late_0 {G : xG} {l : Launch} (hl : l.stackTraces = false) {n : Nat} {rec : Nat → List Value → xH → xO} (hrec : ∀ pc env P z, rec pc env P = some z → ∀ L st, lay_X11_late pc env = some (L, st) → ∀ Q : xR → xH → Prop, Q z.1 z.2 → Wp G l 5 mX11_late pc L st P Q) {a0 a1} {P : xH} {z : xR × xH} (h : b_X11_late_0 n rec a0 a1 P = some z) {Q : xR → xH → Prop} (hQ : Q z.1 z.2) : Wp G l 5 mX11_late 0 [some (.ref a0), some (.int a1), none] [] P Q := by
  unfold b_X11_late_0 at h
  refine x_aload_nr dX11_late_0 rfl ?_
  refine x_iconst 0 dX11_late_1 (by decide) ?_
  obtain ⟨P1, e2, h⟩ := Option.bind_eq_some_iff.mp h
  refine k_wI e2 dX11_late_2 f_X11_3 (Or.inl (by decide)) rfl ?_
  refine x_aload_nr dX11_late_5 rfl ?_
  refine x_aload_nr dX11_late_6 rfl ?_
  refine x_iload_n dX11_late_7 rfl ?_
  obtain ⟨_, e7, h⟩ := Option.bind_eq_some_iff.mp h
  obtain ⟨fse7, e7⟩ := kO_ok e7
  obtain ⟨r4, e5, h⟩ := Option.bind_eq_some_iff.mp h
  replace h := xI_ok h
  obtain ⟨v6, P3, rfl, h⟩ := h
  refine x_callV (c_X11_noWord hl e5) dX11_late_8 cw_X11_noWord wl_X11_322 wi_X11_noWord wse_X11_noWord rfl e7 (by decide) rfl (by omega) (by decide) rfl (Nat.le_of_ble_eq_true rfl) rfl (fun v9 P9 hq9 => ?_) (fun i9 P9 hq9 => by cases hq9)
  cases hq9
  refine x_iconst 1 dX11_late_11 (by decide) ?_
  obtain ⟨_, e12, h⟩ := Option.bind_eq_some_iff.mp h
  obtain ⟨fse12, e12⟩ := kO_ok e12
  obtain ⟨r9, e10, h⟩ := Option.bind_eq_some_iff.mp h
  replace h := xI_ok h
  obtain ⟨v11, P8, rfl, h⟩ := h
  refine x_callV (c_X11_throwsIf hl e10) dX11_late_12 cw_X11_throwsIf wl_X11_93 wi_X11_throwsIf wse_X11_throwsIf rfl e12 (by decide) rfl (by omega) (by decide) rfl (Nat.le_of_ble_eq_true rfl) rfl (fun v9 P9 hq9 => ?_) (fun i9 P9 hq9 => by cases hq9)
  cases hq9
  refine x_if_eq 20 dX11_late_15 (by decide) (fun q27 => ?_) (fun q27 => ?_)
  · rw [if_pos q27] at h
    refine x_aload_nr dX11_late_20 rfl ?_
    obtain ⟨v13, e14, h⟩ := Option.bind_eq_some_iff.mp h
    refine k_rA e14 dX11_late_21 f_X11_13 ?_
    refine x_iload_n dX11_late_24 rfl ?_
    refine x_iconst 0 dX11_late_25 (by decide) ?_
    obtain ⟨r16, e17, h⟩ := Option.bind_eq_some_iff.mp h
    replace h := xI_ok h
    obtain ⟨v18, P15, rfl, h⟩ := h
    refine x_callS (c_X11_hadAt hl e17) dX11_late_26 cw_X11_hadAt wl_X11_261 ws_X11_hadAt rfl (by omega) (by decide) rfl (Nat.le_of_ble_eq_true rfl) rfl (fun v9 P9 hq9 => ?_) (fun i9 P9 hq9 => by cases hq9)
    cases hq9
    obtain ⟨v19, e20, h⟩ := Option.bind_eq_some_iff.mp h
    refine k_aI e20 dX11_late_29 ?_
    refine x_istore_n dX11_late_30 (Nat.le_of_ble_eq_true rfl) ?_
    refine x_iload_n dX11_late_31 rfl ?_
    refine x_if_ge 39 dX11_late_32 (by decide) (fun q26 => ?_) (fun q26 => ?_)
    · rw [if_pos q26] at h
      refine x_iload_n dX11_late_39 rfl ?_
      refine x_aload_nr dX11_late_40 rfl ?_
      refine x_iload_n dX11_late_41 rfl ?_
      refine x_iconst 2 dX11_late_42 (by decide) ?_
      obtain ⟨_, e25, h⟩ := Option.bind_eq_some_iff.mp h
      obtain ⟨fse25, e25⟩ := kO_ok e25
      obtain ⟨r22, e23, h⟩ := Option.bind_eq_some_iff.mp h
      replace h := xI_ok h
      obtain ⟨v24, P21, rfl, h⟩ := h
      refine x_callV (c_X11_of hl e23) dX11_late_43 cw_X11_of wl_X11_240 wi_X11_of wse_X11_of rfl e25 (by decide) rfl (by omega) (by decide) rfl (Nat.le_of_ble_eq_true rfl) rfl (fun v9 P9 hq9 => ?_) (fun i9 P9 hq9 => by cases hq9)
      cases hq9
      refine x_isub dX11_late_46 ?_
      cases h
      exact x_iret .int rfl rfl dX11_late_47 hQ
    · rw [if_neg q26] at h
      refine x_iconst (-1) dX11_late_35 (by decide) ?_
      refine x_goto 47 dX11_late_36 (by decide) ?_
      cases h
      exact x_iret .int rfl rfl dX11_late_47 hQ
  · rw [if_neg q27] at h
    refine x_iconst 0 dX11_late_18 (by decide) ?_
    cases h
    exact x_iret .int rfl rfl dX11_late_19 hQ
theorem s_X11_late {G : xG} {l : Launch} (hl : l.stackTraces = false) : ∀ n pc env P z, f_X11_late n pc env P = some z → ∀ L st, lay_X11_late pc env = some (L, st) → ∀ Q : xR → xH → Prop, Q z.1 z.2 → Wp G l 5 mX11_late pc L st P Q := by
  intro n
  induction n with
  | zero => intro pc env P z h; cases h
  | succ n ih =>
    intro pc env P z h L st hlay Q hQ
    unfold f_X11_late at h
    split at h
    · cases hlay
      exact t_X11_late_0 hl ih h hQ
    · cases h
theorem c_X11_late {G : xG} {l : Launch} (hl : l.stackTraces = false) {n : Nat} {as : List Value} {P : xH} {z : xR × xH} (h : f_X11_late n 0 as P = some z) : Ct G l 5 mX11_late as P (fun r P1 => (r, P1) = z) := by
  cases n with
  | zero => cases h
  | succ n =>
    unfold f_X11_late at h
    split at h
    · exact Ct.of hl (by decide +kernel) wc_X11_late (Nat.le_of_ble_eq_true rfl) (t_X11_late_0 hl (s_X11_late hl _) h rfl)
    all_goals first | (cases h; done) | (rename_i q9 _; exact absurd q9 (by decide)) | (rename_i q9; exact absurd q9 (by decide)) | contradiction
/-! QuakeNetModel.rumour(I)I -/
def b_X11_rumour_0 (n : Nat) (rec : Nat → List Value → xH → xO) (a0 : Nat) (a1 : Int32) (P : xH) : xO :=
  (wV P a0 11 0 (.int 0)).bind fun P1 =>
  (kO P1 a0 11).bind fun _ =>
  (f_X11_noWord n 0 [.ref a0, .int a1] P1).bind fun r4 => xI r4 fun v6 P3 =>
  (kO P3 a0 11).bind fun _ =>
  (f_X11_throwsIf n 0 [.ref a0, .int v6, .int 1] P3).bind fun r9 => xI r9 fun v11 P8 =>
  if v11 = 0 then
    (kO P8 a0 11).bind fun _ =>
    (f_X11_of n 0 [.ref a0, .int a1, .int 0] P8).bind fun r14 => xI r14 fun v16 P13 =>
    if v16 = 1 then
      rec 45 [.ref a0, .int a1, .int 1] P13
    else
      (kO P13 a0 11).bind fun _ =>
      (f_X11_of n 0 [.ref a0, .int a1, .int 0] P13).bind fun r19 => xI r19 fun v21 P18 =>
      if ¬ v21 = 2 then
        rec 45 [.ref a0, .int a1, .int 0] P18
      else
        rec 45 [.ref a0, .int a1, .int 1] P18
  else
    some (.inl (some (.int 0)), P8)
def b_X11_rumour_45 (n : Nat) (rec : Nat → List Value → xH → xO) (a0 : Nat) (a1 : Int32) (s0 : Int32) (P : xH) : xO :=
  (rA P a0 11 1).bind fun v1 =>
  (f_X11_hadAt n 0 [.int a1, .int 0] P).bind fun r4 => xI r4 fun v6 P3 =>
  (aI P3 v1 v6).bind fun v7 =>
  if v7 < 0 then
    some (.inl (some (.int ((-1)))), P3)
  else
    if s0 = 0 then
      some (.inl (some (.int ((-1)))), P3)
    else
      (kO P3 a0 11).bind fun _ =>
      (f_X11_of n 0 [.ref a0, .int a1, .int 7] P3).bind fun r10 => xI r10 fun v12 P9 =>
      if ¬ v12 = 9999 then
        rec 80 [.ref a0, .int a1, .int s0, .int 0] P9
      else
        some (.inl (some (.int ((-1)))), P9)
def b_X11_rumour_80 (n : Nat) (rec : Nat → List Value → xH → xO) (a0 : Nat) (a1 : Int32) (a2 : Int32) (a3 : Int32) (P : xH) : xO :=
  (rA P a0 11 1).bind fun v1 =>
  (f_X11_hadAt n 0 [.int a1, .int 4] P).bind fun r4 => xI r4 fun v6 P3 =>
  (aI P3 v1 v6).bind fun v7 =>
  if v7 ≤ a3 then
    some (.inl (some (.int ((-1)))), P3)
  else
    (kO P3 a0 11).bind fun _ =>
    (f_X11_wayOf n 0 [.ref a0, .int a1, .int a3] P3).bind fun r10 => xI r10 fun v12 P9 =>
    (kO P9 a0 11).bind fun _ =>
    (f_X11_toldOf n 0 [.ref a0, .int v12, .int 2] P9).bind fun r15 => xI r15 fun v17 P14 =>
    if v17 ≤ 0 then
      rec 80 [.ref a0, .int a1, .int a2, .int ((a3 + 1))] P14
    else
      (kO P14 a0 11).bind fun _ =>
      (f_X11_wayOf n 0 [.ref a0, .int a1, .int a3] P14).bind fun r20 => xI r20 fun v22 P19 =>
      some (.inl (some (.int v22)), P19)
def lay_X11_rumour : Nat → List Value → Option (xL × List Value)
  | 0, [a0, a1] => some ([some a0, some a1, none, none], [])
  | 45, [a0, a1, s0] => some ([some a0, some a1, none, none], [s0])
  | 80, [a0, a1, a2, a3] => some ([some a0, some a1, some a2, some a3], [])
  | _, _ => none
def f_X11_rumour : Nat → Nat → List Value → xH → xO
  | 0 => fun _ _ _ => none
  | n + 1 => fun pc env P => match pc, env with
    | 0, [.ref a0, .int a1] => b_X11_rumour_0 n (f_X11_rumour n) a0 a1 P
    | 45, [.ref a0, .int a1, .int s0] => b_X11_rumour_45 n (f_X11_rumour n) a0 a1 s0 P
    | 80, [.ref a0, .int a1, .int a2, .int a3] => b_X11_rumour_80 n (f_X11_rumour n) a0 a1 a2 a3 P
    | _, _ => none
set_option maxHeartbeats 2000000 in
set_option maxRecDepth 20000 in
theorem t_X11_rumour_0 {G : xG} {l : Launch} (hl : l.stackTraces = false) {n : Nat} {rec : Nat → List Value → xH → xO} (hrec : ∀ pc env P z, rec pc env P = some z → ∀ L st, lay_X11_rumour pc env = some (L, st) → ∀ Q : xR → xH → Prop, Q z.1 z.2 → Wp G l 5 mX11_rumour pc L st P Q) {a0 a1} {P : xH} {z : xR × xH} (h : b_X11_rumour_0 n rec a0 a1 P = some z) {Q : xR → xH → Prop} (hQ : Q z.1 z.2) : Wp G l 5 mX11_rumour 0 [some (.ref a0), some (.int a1), none, none] [] P Q := by
  unfold b_X11_rumour_0 at h
  refine x_aload_nr dX11_rumour_0 rfl ?_
  refine x_iconst 0 dX11_rumour_1 (by decide) ?_
  obtain ⟨P1, e2, h⟩ := Option.bind_eq_some_iff.mp h
  refine k_wI e2 dX11_rumour_2 f_X11_3 (Or.inl (by decide)) rfl ?_
  refine x_aload_nr dX11_rumour_5 rfl ?_
  refine x_aload_nr dX11_rumour_6 rfl ?_
  refine x_iload_n dX11_rumour_7 rfl ?_
  obtain ⟨_, e7, h⟩ := Option.bind_eq_some_iff.mp h
  obtain ⟨fse7, e7⟩ := kO_ok e7
  obtain ⟨r4, e5, h⟩ := Option.bind_eq_some_iff.mp h
  replace h := xI_ok h
  obtain ⟨v6, P3, rfl, h⟩ := h
  refine x_callV (c_X11_noWord hl e5) dX11_rumour_8 cw_X11_noWord wl_X11_322 wi_X11_noWord wse_X11_noWord rfl e7 (by decide) rfl (by omega) (by decide) rfl (Nat.le_of_ble_eq_true rfl) rfl (fun v9 P9 hq9 => ?_) (fun i9 P9 hq9 => by cases hq9)
  cases hq9
  refine x_iconst 1 dX11_rumour_11 (by decide) ?_
  obtain ⟨_, e12, h⟩ := Option.bind_eq_some_iff.mp h
  obtain ⟨fse12, e12⟩ := kO_ok e12
  obtain ⟨r9, e10, h⟩ := Option.bind_eq_some_iff.mp h
  replace h := xI_ok h
  obtain ⟨v11, P8, rfl, h⟩ := h
  refine x_callV (c_X11_throwsIf hl e10) dX11_rumour_12 cw_X11_throwsIf wl_X11_93 wi_X11_throwsIf wse_X11_throwsIf rfl e12 (by decide) rfl (by omega) (by decide) rfl (Nat.le_of_ble_eq_true rfl) rfl (fun v9 P9 hq9 => ?_) (fun i9 P9 hq9 => by cases hq9)
  cases hq9
  refine x_if_eq 20 dX11_rumour_15 (by decide) (fun q25 => ?_) (fun q25 => ?_)
  · rw [if_pos q25] at h
    refine x_aload_nr dX11_rumour_20 rfl ?_
    refine x_iload_n dX11_rumour_21 rfl ?_
    refine x_iconst 0 dX11_rumour_22 (by decide) ?_
    obtain ⟨_, e17, h⟩ := Option.bind_eq_some_iff.mp h
    obtain ⟨fse17, e17⟩ := kO_ok e17
    obtain ⟨r14, e15, h⟩ := Option.bind_eq_some_iff.mp h
    replace h := xI_ok h
    obtain ⟨v16, P13, rfl, h⟩ := h
    refine x_callV (c_X11_of hl e15) dX11_rumour_23 cw_X11_of wl_X11_240 wi_X11_of wse_X11_of rfl e17 (by decide) rfl (by omega) (by decide) rfl (Nat.le_of_ble_eq_true rfl) rfl (fun v9 P9 hq9 => ?_) (fun i9 P9 hq9 => by cases hq9)
    cases hq9
    refine x_iconst 1 dX11_rumour_26 (by decide) ?_
    refine x_icmp_eq 40 dX11_rumour_27 (by decide) (fun q24 => ?_) (fun q24 => ?_)
    · rw [if_pos q24] at h
      refine x_iconst 1 dX11_rumour_40 (by decide) ?_
      refine x_goto 45 dX11_rumour_41 (by decide) ?_
      exact Wp.mask [true, true, false, false] (hrec 45 _ _ _ h _ _ rfl _ hQ)
    · rw [if_neg q24] at h
      refine x_aload_nr dX11_rumour_30 rfl ?_
      refine x_iload_n dX11_rumour_31 rfl ?_
      refine x_iconst 0 dX11_rumour_32 (by decide) ?_
      obtain ⟨_, e22, h⟩ := Option.bind_eq_some_iff.mp h
      obtain ⟨fse22, e22⟩ := kO_ok e22
      obtain ⟨r19, e20, h⟩ := Option.bind_eq_some_iff.mp h
      replace h := xI_ok h
      obtain ⟨v21, P18, rfl, h⟩ := h
      refine x_callV (c_X11_of hl e20) dX11_rumour_33 cw_X11_of wl_X11_240 wi_X11_of wse_X11_of rfl e22 (by decide) rfl (by omega) (by decide) rfl (Nat.le_of_ble_eq_true rfl) rfl (fun v9 P9 hq9 => ?_) (fun i9 P9 hq9 => by cases hq9)
      cases hq9
      refine x_iconst 2 dX11_rumour_36 (by decide) ?_
      refine x_icmp_ne 44 dX11_rumour_37 (by decide) (fun q23 => ?_) (fun q23 => ?_)
      · rw [if_pos q23] at h
        refine x_iconst 0 dX11_rumour_44 (by decide) ?_
        exact Wp.mask [true, true, false, false] (hrec 45 _ _ _ h _ _ rfl _ hQ)
      · rw [if_neg (fun z9 => z9 q23)] at h
        refine x_iconst 1 dX11_rumour_40 (by decide) ?_
        refine x_goto 45 dX11_rumour_41 (by decide) ?_
        exact Wp.mask [true, true, false, false] (hrec 45 _ _ _ h _ _ rfl _ hQ)
  · rw [if_neg q25] at h
    refine x_iconst 0 dX11_rumour_18 (by decide) ?_
    cases h
    exact x_iret .int rfl rfl dX11_rumour_19 hQ
set_option maxHeartbeats 2000000 in
set_option maxRecDepth 20000 in
theorem t_X11_rumour_45 {G : xG} {l : Launch} (hl : l.stackTraces = false) {n : Nat} {rec : Nat → List Value → xH → xO} (hrec : ∀ pc env P z, rec pc env P = some z → ∀ L st, lay_X11_rumour pc env = some (L, st) → ∀ Q : xR → xH → Prop, Q z.1 z.2 → Wp G l 5 mX11_rumour pc L st P Q) {a0 a1 s0} {P : xH} {z : xR × xH} (h : b_X11_rumour_45 n rec a0 a1 s0 P = some z) {Q : xR → xH → Prop} (hQ : Q z.1 z.2) : Wp G l 5 mX11_rumour 45 [some (.ref a0), some (.int a1), none, none] [.int s0] P Q := by
  unfold b_X11_rumour_45 at h
  refine x_istore_n dX11_rumour_45 (Nat.le_of_ble_eq_true rfl) ?_
  refine x_aload_nr dX11_rumour_46 rfl ?_
  obtain ⟨v1, e2, h⟩ := Option.bind_eq_some_iff.mp h
  refine k_rA e2 dX11_rumour_47 f_X11_13 ?_
  refine x_iload_n dX11_rumour_50 rfl ?_
  refine x_iconst 0 dX11_rumour_51 (by decide) ?_
  obtain ⟨r4, e5, h⟩ := Option.bind_eq_some_iff.mp h
  replace h := xI_ok h
  obtain ⟨v6, P3, rfl, h⟩ := h
  refine x_callS (c_X11_hadAt hl e5) dX11_rumour_52 cw_X11_hadAt wl_X11_261 ws_X11_hadAt rfl (by omega) (by decide) rfl (Nat.le_of_ble_eq_true rfl) rfl (fun v9 P9 hq9 => ?_) (fun i9 P9 hq9 => by cases hq9)
  cases hq9
  obtain ⟨v7, e8, h⟩ := Option.bind_eq_some_iff.mp h
  refine k_aI e8 dX11_rumour_55 ?_
  refine x_if_lt 76 dX11_rumour_56 (by decide) (fun q16 => ?_) (fun q16 => ?_)
  · rw [if_pos q16] at h
    refine x_iconst (-1) dX11_rumour_76 (by decide) ?_
    cases h
    exact x_iret .int rfl rfl dX11_rumour_77 hQ
  · rw [if_neg q16] at h
    refine x_iload_n dX11_rumour_59 rfl ?_
    refine x_if_eq 76 dX11_rumour_60 (by decide) (fun q15 => ?_) (fun q15 => ?_)
    · rw [if_pos q15] at h
      refine x_iconst (-1) dX11_rumour_76 (by decide) ?_
      cases h
      exact x_iret .int rfl rfl dX11_rumour_77 hQ
    · rw [if_neg q15] at h
      refine x_aload_nr dX11_rumour_63 rfl ?_
      refine x_iload_n dX11_rumour_64 rfl ?_
      refine x_bipush 7 dX11_rumour_65 (by decide) ?_
      obtain ⟨_, e13, h⟩ := Option.bind_eq_some_iff.mp h
      obtain ⟨fse13, e13⟩ := kO_ok e13
      obtain ⟨r10, e11, h⟩ := Option.bind_eq_some_iff.mp h
      replace h := xI_ok h
      obtain ⟨v12, P9, rfl, h⟩ := h
      refine x_callV (c_X11_of hl e11) dX11_rumour_67 cw_X11_of wl_X11_240 wi_X11_of wse_X11_of rfl e13 (by decide) rfl (by omega) (by decide) rfl (Nat.le_of_ble_eq_true rfl) rfl (fun v9 P9 hq9 => ?_) (fun i9 P9 hq9 => by cases hq9)
      cases hq9
      refine x_sipush 9999 dX11_rumour_70 (by decide) ?_
      refine x_icmp_ne 78 dX11_rumour_73 (by decide) (fun q14 => ?_) (fun q14 => ?_)
      · rw [if_pos q14] at h
        refine x_iconst 0 dX11_rumour_78 (by decide) ?_
        refine x_istore_n dX11_rumour_79 (Nat.le_of_ble_eq_true rfl) ?_
        exact Wp.mask [true, true, true, true] (hrec 80 _ _ _ h _ _ rfl _ hQ)
      · rw [if_neg (fun z9 => z9 q14)] at h
        refine x_iconst (-1) dX11_rumour_76 (by decide) ?_
        cases h
        exact x_iret .int rfl rfl dX11_rumour_77 hQ
set_option maxHeartbeats 2000000 in
set_option maxRecDepth 20000 in
theorem t_X11_rumour_80 {G : xG} {l : Launch} (hl : l.stackTraces = false) {n : Nat} {rec : Nat → List Value → xH → xO} (hrec : ∀ pc env P z, rec pc env P = some z → ∀ L st, lay_X11_rumour pc env = some (L, st) → ∀ Q : xR → xH → Prop, Q z.1 z.2 → Wp G l 5 mX11_rumour pc L st P Q) {a0 a1 a2 a3} {P : xH} {z : xR × xH} (h : b_X11_rumour_80 n rec a0 a1 a2 a3 P = some z) {Q : xR → xH → Prop} (hQ : Q z.1 z.2) : Wp G l 5 mX11_rumour 80 [some (.ref a0), some (.int a1), some (.int a2), some (.int a3)] [] P Q := by
  unfold b_X11_rumour_80 at h
  refine x_iload_n dX11_rumour_80 rfl ?_
  refine x_aload_nr dX11_rumour_81 rfl ?_
  obtain ⟨v1, e2, h⟩ := Option.bind_eq_some_iff.mp h
  refine k_rA e2 dX11_rumour_82 f_X11_13 ?_
  refine x_iload_n dX11_rumour_85 rfl ?_
  refine x_iconst 4 dX11_rumour_86 (by decide) ?_
  obtain ⟨r4, e5, h⟩ := Option.bind_eq_some_iff.mp h
  replace h := xI_ok h
  obtain ⟨v6, P3, rfl, h⟩ := h
  refine x_callS (c_X11_hadAt hl e5) dX11_rumour_87 cw_X11_hadAt wl_X11_261 ws_X11_hadAt rfl (by omega) (by decide) rfl (Nat.le_of_ble_eq_true rfl) rfl (fun v9 P9 hq9 => ?_) (fun i9 P9 hq9 => by cases hq9)
  cases hq9
  obtain ⟨v7, e8, h⟩ := Option.bind_eq_some_iff.mp h
  refine k_aI e8 dX11_rumour_90 ?_
  refine x_icmp_ge 121 dX11_rumour_91 (by decide) (fun q25 => ?_) (fun q25 => ?_)
  · rw [if_pos q25] at h
    refine x_iconst (-1) dX11_rumour_121 (by decide) ?_
    cases h
    exact x_iret .int rfl rfl dX11_rumour_122 hQ
  · rw [if_neg q25] at h
    refine x_aload_nr dX11_rumour_94 rfl ?_
    refine x_aload_nr dX11_rumour_95 rfl ?_
    refine x_iload_n dX11_rumour_96 rfl ?_
    refine x_iload_n dX11_rumour_97 rfl ?_
    obtain ⟨_, e13, h⟩ := Option.bind_eq_some_iff.mp h
    obtain ⟨fse13, e13⟩ := kO_ok e13
    obtain ⟨r10, e11, h⟩ := Option.bind_eq_some_iff.mp h
    replace h := xI_ok h
    obtain ⟨v12, P9, rfl, h⟩ := h
    refine x_callV (c_X11_wayOf hl e11) dX11_rumour_98 cw_X11_wayOf wl_X11_325 wi_X11_wayOf wse_X11_wayOf rfl e13 (by decide) rfl (by omega) (by decide) rfl (Nat.le_of_ble_eq_true rfl) rfl (fun v9 P9 hq9 => ?_) (fun i9 P9 hq9 => by cases hq9)
    cases hq9
    refine x_iconst 2 dX11_rumour_101 (by decide) ?_
    obtain ⟨_, e18, h⟩ := Option.bind_eq_some_iff.mp h
    obtain ⟨fse18, e18⟩ := kO_ok e18
    obtain ⟨r15, e16, h⟩ := Option.bind_eq_some_iff.mp h
    replace h := xI_ok h
    obtain ⟨v17, P14, rfl, h⟩ := h
    refine x_callV (c_X11_toldOf hl e16) dX11_rumour_102 cw_X11_toldOf wl_X11_110 wi_X11_toldOf wse_X11_toldOf rfl e18 (by decide) rfl (by omega) (by decide) rfl (Nat.le_of_ble_eq_true rfl) rfl (fun v9 P9 hq9 => ?_) (fun i9 P9 hq9 => by cases hq9)
    cases hq9
    refine x_if_le 115 dX11_rumour_105 (by decide) (fun q24 => ?_) (fun q24 => ?_)
    · rw [if_pos q24] at h
      refine x_iinc (a3 + 1) dX11_rumour_115 rfl (by rfl) ?_
      refine x_goto 80 dX11_rumour_118 (by decide) ?_
      exact Wp.mask [true, true, true, true] (hrec 80 _ _ _ h _ _ rfl _ hQ)
    · rw [if_neg q24] at h
      refine x_aload_nr dX11_rumour_108 rfl ?_
      refine x_iload_n dX11_rumour_109 rfl ?_
      refine x_iload_n dX11_rumour_110 rfl ?_
      obtain ⟨_, e23, h⟩ := Option.bind_eq_some_iff.mp h
      obtain ⟨fse23, e23⟩ := kO_ok e23
      obtain ⟨r20, e21, h⟩ := Option.bind_eq_some_iff.mp h
      replace h := xI_ok h
      obtain ⟨v22, P19, rfl, h⟩ := h
      refine x_callV (c_X11_wayOf hl e21) dX11_rumour_111 cw_X11_wayOf wl_X11_325 wi_X11_wayOf wse_X11_wayOf rfl e23 (by decide) rfl (by omega) (by decide) rfl (Nat.le_of_ble_eq_true rfl) rfl (fun v9 P9 hq9 => ?_) (fun i9 P9 hq9 => by cases hq9)
      cases hq9
      cases h
      exact x_iret .int rfl rfl dX11_rumour_114 hQ
theorem s_X11_rumour {G : xG} {l : Launch} (hl : l.stackTraces = false) : ∀ n pc env P z, f_X11_rumour n pc env P = some z → ∀ L st, lay_X11_rumour pc env = some (L, st) → ∀ Q : xR → xH → Prop, Q z.1 z.2 → Wp G l 5 mX11_rumour pc L st P Q := by
  intro n
  induction n with
  | zero => intro pc env P z h; cases h
  | succ n ih =>
    intro pc env P z h L st hlay Q hQ
    unfold f_X11_rumour at h
    split at h
    · cases hlay
      exact t_X11_rumour_0 hl ih h hQ
    · cases hlay
      exact t_X11_rumour_45 hl ih h hQ
    · cases hlay
      exact t_X11_rumour_80 hl ih h hQ
    · cases h
theorem c_X11_rumour {G : xG} {l : Launch} (hl : l.stackTraces = false) {n : Nat} {as : List Value} {P : xH} {z : xR × xH} (h : f_X11_rumour n 0 as P = some z) : Ct G l 5 mX11_rumour as P (fun r P1 => (r, P1) = z) := by
  cases n with
  | zero => cases h
  | succ n =>
    unfold f_X11_rumour at h
    split at h
    · exact Ct.of hl (by decide +kernel) wc_X11_rumour (Nat.le_of_ble_eq_true rfl) (t_X11_rumour_0 hl (s_X11_rumour hl _) h rfl)
    all_goals first | (cases h; done) | (rename_i q9 _; exact absurd q9 (by decide)) | (rename_i q9; exact absurd q9 (by decide)) | contradiction
/-! QuakeNetModel.wasHad(II)Z -/
def b_X11_wasHad_0 (n : Nat) (rec : Nat → List Value → xH → xO) (a0 : Nat) (a1 : Int32) (a2 : Int32) (P : xH) : xO :=
  (rA P a0 11 1).bind fun v1 =>
  (f_X11_hadAt n 0 [.int a1, .int 0] P).bind fun r4 => xI r4 fun v6 P3 =>
  (aI P3 v1 v6).bind fun v7 =>
  (f_X11_in n 0 [.int v7, .int 0, .int a2] P3).bind fun r10 => xI r10 fun v12 P9 =>
  if v12 = 0 ∨ v12 = 1 then some (.inl (some (.int v12)), P9) else none
def lay_X11_wasHad : Nat → List Value → Option (xL × List Value)
  | 0, [a0, a1, a2] => some ([some a0, some a1, some a2], [])
  | _, _ => none
def f_X11_wasHad : Nat → Nat → List Value → xH → xO
  | 0 => fun _ _ _ => none
  | n + 1 => fun pc env P => match pc, env with
    | 0, [.ref a0, .int a1, .int a2] => b_X11_wasHad_0 n (f_X11_wasHad n) a0 a1 a2 P
    | _, _ => none
set_option maxHeartbeats 2000000 in
set_option maxRecDepth 20000 in
theorem t_X11_wasHad_0 {G : xG} {l : Launch} (hl : l.stackTraces = false) {n : Nat} {rec : Nat → List Value → xH → xO} (hrec : ∀ pc env P z, rec pc env P = some z → ∀ L st, lay_X11_wasHad pc env = some (L, st) → ∀ Q : xR → xH → Prop, Q z.1 z.2 → Wp G l 4 mX11_wasHad pc L st P Q) {a0 a1 a2} {P : xH} {z : xR × xH} (h : b_X11_wasHad_0 n rec a0 a1 a2 P = some z) {Q : xR → xH → Prop} (hQ : Q z.1 z.2) : Wp G l 4 mX11_wasHad 0 [some (.ref a0), some (.int a1), some (.int a2)] [] P Q := by
  unfold b_X11_wasHad_0 at h
  refine x_aload_nr dX11_wasHad_0 rfl ?_
  obtain ⟨v1, e2, h⟩ := Option.bind_eq_some_iff.mp h
  refine k_rA e2 dX11_wasHad_1 f_X11_13 ?_
  refine x_iload_n dX11_wasHad_4 rfl ?_
  refine x_iconst 0 dX11_wasHad_5 (by decide) ?_
  obtain ⟨r4, e5, h⟩ := Option.bind_eq_some_iff.mp h
  replace h := xI_ok h
  obtain ⟨v6, P3, rfl, h⟩ := h
  refine x_callS (c_X11_hadAt hl e5) dX11_wasHad_6 cw_X11_hadAt wl_X11_261 ws_X11_hadAt rfl (by omega) (by decide) rfl (Nat.le_of_ble_eq_true rfl) rfl (fun v9 P9 hq9 => ?_) (fun i9 P9 hq9 => by cases hq9)
  cases hq9
  obtain ⟨v7, e8, h⟩ := Option.bind_eq_some_iff.mp h
  refine k_aI e8 dX11_wasHad_9 ?_
  refine x_iconst 0 dX11_wasHad_10 (by decide) ?_
  refine x_iload_n dX11_wasHad_11 rfl ?_
  obtain ⟨r10, e11, h⟩ := Option.bind_eq_some_iff.mp h
  replace h := xI_ok h
  obtain ⟨v12, P9, rfl, h⟩ := h
  refine x_callS (c_X11_in hl e11) dX11_wasHad_12 cw_X11_in wl_X11_68 ws_X11_in rfl (by omega) (by decide) rfl (Nat.le_of_ble_eq_true rfl) rfl (fun v9 P9 hq9 => ?_) (fun i9 P9 hq9 => by cases hq9)
  cases hq9
  by_cases q13 : v12 = 0 ∨ v12 = 1
  · rw [if_pos q13] at h
    cases h
    exact x_iret .boolean rfl (by rcases q13 with z9 | z9 <;> rw [z9] <;> rfl) dX11_wasHad_15 hQ
  · rw [if_neg q13] at h
    cases h
theorem s_X11_wasHad {G : xG} {l : Launch} (hl : l.stackTraces = false) : ∀ n pc env P z, f_X11_wasHad n pc env P = some z → ∀ L st, lay_X11_wasHad pc env = some (L, st) → ∀ Q : xR → xH → Prop, Q z.1 z.2 → Wp G l 4 mX11_wasHad pc L st P Q := by
  intro n
  induction n with
  | zero => intro pc env P z h; cases h
  | succ n ih =>
    intro pc env P z h L st hlay Q hQ
    unfold f_X11_wasHad at h
    split at h
    · cases hlay
      exact t_X11_wasHad_0 hl ih h hQ
    · cases h
theorem c_X11_wasHad {G : xG} {l : Launch} (hl : l.stackTraces = false) {n : Nat} {as : List Value} {P : xH} {z : xR × xH} (h : f_X11_wasHad n 0 as P = some z) : Ct G l 4 mX11_wasHad as P (fun r P1 => (r, P1) = z) := by
  cases n with
  | zero => cases h
  | succ n =>
    unfold f_X11_wasHad at h
    split at h
    · exact Ct.of hl (by decide +kernel) wc_X11_wasHad (Nat.le_of_ble_eq_true rfl) (t_X11_wasHad_0 hl (s_X11_wasHad hl _) h rfl)
    all_goals first | (cases h; done) | (rename_i q9 _; exact absurd q9 (by decide)) | (rename_i q9; exact absurd q9 (by decide)) | contradiction
/-! QuakeNetModel.gathers(II)V -/
def b_X11_gathers_0 (n : Nat) (rec : Nat → List Value → xH → xO) (a0 : Nat) (a1 : Int32) (a2 : Int32) (P : xH) : xO :=
  (wV P a0 11 22 (.int 0)).bind fun P1 =>
  rec 7 [.ref a0, .int a1, .int a2, .int 0] P1
def b_X11_gathers_7 (n : Nat) (rec : Nat → List Value → xH → xO) (a0 : Nat) (a1 : Int32) (a2 : Int32) (a3 : Int32) (P : xH) : xO :=
  (kO P a0 11).bind fun _ =>
  (f_X11_words n 0 [.ref a0] P).bind fun r2 => xI r2 fun v4 P1 =>
  if v4 ≤ a3 then
    some (.inl none, P1)
  else
    (kO P1 a0 11).bind fun _ =>
    (f_X11_of n 0 [.ref a0, .int a3, .int 0] P1).bind fun r7 => xI r7 fun v9 P6 =>
    if 1 < v9 then
      rec 7 [.ref a0, .int a1, .int a2, .int ((a3 + 1))] P6
    else
      (kO P6 a0 11).bind fun _ =>
      (f_X11_of n 0 [.ref a0, .int a3, .int 4] P6).bind fun r12 => xI r12 fun v14 P11 =>
      if ¬ v14 = a1 then
        rec 7 [.ref a0, .int a1, .int a2, .int ((a3 + 1))] P11
      else
        (kO P11 a0 11).bind fun _ =>
        (f_X11_wasHad n 0 [.ref a0, .int a3, .int a2] P11).bind fun r17 => xI r17 fun v19 P16 =>
        if ¬ v19 = 0 then
          rec 53 [.ref a0, .int a1, .int a2, .int a3, .int 0, .int 0] P16
        else
          rec 7 [.ref a0, .int a1, .int a2, .int ((a3 + 1))] P16
def b_X11_gathers_53 (n : Nat) (rec : Nat → List Value → xH → xO) (a0 : Nat) (a1 : Int32) (a2 : Int32) (a3 : Int32) (a4 : Int32) (a5 : Int32) (P : xH) : xO :=
  (kO P a0 11).bind fun _ =>
  (f_X11_words n 0 [.ref a0] P).bind fun r2 => xI r2 fun v4 P1 =>
  if v4 ≤ a5 then
    if a4 = 0 then
      (rA P1 a0 11 21).bind fun v6 =>
      (rI P1 a0 11 22).bind fun v8 =>
      (sI P1 v6 v8 a3).bind fun P10 =>
      (rI P10 a0 11 22).bind fun v12 =>
      (wV P10 a0 11 22 (.int ((v12 + 1)))).bind fun P14 =>
      rec 7 [.ref a0, .int a1, .int a2, .int ((a3 + 1))] P14
    else
      rec 7 [.ref a0, .int a1, .int a2, .int ((a3 + 1))] P1
  else
    if ¬ a4 = 0 then
      rec 53 [.ref a0, .int a1, .int a2, .int a3, .int 1, .int ((a5 + 1))] P1
    else
      (kO P1 a0 11).bind fun _ =>
      (f_X11_of n 0 [.ref a0, .int a5, .int 8] P1).bind fun r18 => xI r18 fun v20 P17 =>
      if ¬ v20 = a3 then
        rec 53 [.ref a0, .int a1, .int a2, .int a3, .int 0, .int ((a5 + 1))] P17
      else
        (kO P17 a0 11).bind fun _ =>
        (f_X11_wasHad n 0 [.ref a0, .int a5, .int a2] P17).bind fun r23 => xI r23 fun v25 P22 =>
        if v25 = 0 then
          rec 53 [.ref a0, .int a1, .int a2, .int a3, .int 0, .int ((a5 + 1))] P22
        else
          rec 53 [.ref a0, .int a1, .int a2, .int a3, .int 1, .int ((a5 + 1))] P22
def lay_X11_gathers : Nat → List Value → Option (xL × List Value)
  | 0, [a0, a1, a2] => some ([some a0, some a1, some a2, none, none, none], [])
  | 7, [a0, a1, a2, a3] => some ([some a0, some a1, some a2, some a3, none, none], [])
  | 53, [a0, a1, a2, a3, a4, a5] => some ([some a0, some a1, some a2, some a3, some a4, some a5], [])
  | _, _ => none
def f_X11_gathers : Nat → Nat → List Value → xH → xO
  | 0 => fun _ _ _ => none
  | n + 1 => fun pc env P => match pc, env with
    | 0, [.ref a0, .int a1, .int a2] => b_X11_gathers_0 n (f_X11_gathers n) a0 a1 a2 P
    | 7, [.ref a0, .int a1, .int a2, .int a3] => b_X11_gathers_7 n (f_X11_gathers n) a0 a1 a2 a3 P
    | 53, [.ref a0, .int a1, .int a2, .int a3, .int a4, .int a5] => b_X11_gathers_53 n (f_X11_gathers n) a0 a1 a2 a3 a4 a5 P
    | _, _ => none
set_option maxHeartbeats 2000000 in
set_option maxRecDepth 20000 in
theorem t_X11_gathers_0 {G : xG} {l : Launch} (hl : l.stackTraces = false) {n : Nat} {rec : Nat → List Value → xH → xO} (hrec : ∀ pc env P z, rec pc env P = some z → ∀ L st, lay_X11_gathers pc env = some (L, st) → ∀ Q : xR → xH → Prop, Q z.1 z.2 → Wp G l 5 mX11_gathers pc L st P Q) {a0 a1 a2} {P : xH} {z : xR × xH} (h : b_X11_gathers_0 n rec a0 a1 a2 P = some z) {Q : xR → xH → Prop} (hQ : Q z.1 z.2) : Wp G l 5 mX11_gathers 0 [some (.ref a0), some (.int a1), some (.int a2), none, none, none] [] P Q := by
  unfold b_X11_gathers_0 at h
  refine x_aload_nr dX11_gathers_0 rfl ?_
  refine x_iconst 0 dX11_gathers_1 (by decide) ?_
  obtain ⟨P1, e2, h⟩ := Option.bind_eq_some_iff.mp h
  refine k_wI e2 dX11_gathers_2 f_X11_328 (Or.inl (by decide)) rfl ?_
  refine x_iconst 0 dX11_gathers_5 (by decide) ?_
  refine x_istore_n dX11_gathers_6 (Nat.le_of_ble_eq_true rfl) ?_
  exact Wp.mask [true, true, true, true, false, false] (hrec 7 _ _ _ h _ _ rfl _ hQ)
set_option maxHeartbeats 2000000 in
set_option maxRecDepth 20000 in
theorem t_X11_gathers_7 {G : xG} {l : Launch} (hl : l.stackTraces = false) {n : Nat} {rec : Nat → List Value → xH → xO} (hrec : ∀ pc env P z, rec pc env P = some z → ∀ L st, lay_X11_gathers pc env = some (L, st) → ∀ Q : xR → xH → Prop, Q z.1 z.2 → Wp G l 5 mX11_gathers pc L st P Q) {a0 a1 a2 a3} {P : xH} {z : xR × xH} (h : b_X11_gathers_7 n rec a0 a1 a2 a3 P = some z) {Q : xR → xH → Prop} (hQ : Q z.1 z.2) : Wp G l 5 mX11_gathers 7 [some (.ref a0), some (.int a1), some (.int a2), some (.int a3), none, none] [] P Q := by
  unfold b_X11_gathers_7 at h
  refine x_iload_n dX11_gathers_7 rfl ?_
  refine x_aload_nr dX11_gathers_8 rfl ?_
  obtain ⟨_, e5, h⟩ := Option.bind_eq_some_iff.mp h
  obtain ⟨fse5, e5⟩ := kO_ok e5
  obtain ⟨r2, e3, h⟩ := Option.bind_eq_some_iff.mp h
  replace h := xI_ok h
  obtain ⟨v4, P1, rfl, h⟩ := h
  refine x_callV (c_X11_words hl e3) dX11_gathers_9 cw_X11_words wl_X11_72 wi_X11_words wse_X11_words rfl e5 (by decide) rfl (by omega) (by decide) rfl (Nat.le_of_ble_eq_true rfl) rfl (fun v9 P9 hq9 => ?_) (fun i9 P9 hq9 => by cases hq9)
  cases hq9
  refine x_icmp_ge 136 dX11_gathers_12 (by decide) (fun q24 => ?_) (fun q24 => ?_)
  · rw [if_pos q24] at h
    cases h
    exact x_ret rfl dX11_gathers_136 hQ
  · rw [if_neg q24] at h
    refine x_aload_nr dX11_gathers_15 rfl ?_
    refine x_iload_n dX11_gathers_16 rfl ?_
    refine x_iconst 0 dX11_gathers_17 (by decide) ?_
    obtain ⟨_, e10, h⟩ := Option.bind_eq_some_iff.mp h
    obtain ⟨fse10, e10⟩ := kO_ok e10
    obtain ⟨r7, e8, h⟩ := Option.bind_eq_some_iff.mp h
    replace h := xI_ok h
    obtain ⟨v9, P6, rfl, h⟩ := h
    refine x_callV (c_X11_of hl e8) dX11_gathers_18 cw_X11_of wl_X11_240 wi_X11_of wse_X11_of rfl e10 (by decide) rfl (by omega) (by decide) rfl (Nat.le_of_ble_eq_true rfl) rfl (fun v9 P9 hq9 => ?_) (fun i9 P9 hq9 => by cases hq9)
    cases hq9
    refine x_iconst 1 dX11_gathers_21 (by decide) ?_
    refine x_icmp_gt 130 dX11_gathers_22 (by decide) (fun q23 => ?_) (fun q23 => ?_)
    · rw [if_pos q23] at h
      refine x_iinc (a3 + 1) dX11_gathers_130 rfl (by rfl) ?_
      refine x_goto 7 dX11_gathers_133 (by decide) ?_
      exact Wp.mask [true, true, true, true, false, false] (hrec 7 _ _ _ h _ _ rfl _ hQ)
    · rw [if_neg q23] at h
      refine x_aload_nr dX11_gathers_25 rfl ?_
      refine x_iload_n dX11_gathers_26 rfl ?_
      refine x_iconst 4 dX11_gathers_27 (by decide) ?_
      obtain ⟨_, e15, h⟩ := Option.bind_eq_some_iff.mp h
      obtain ⟨fse15, e15⟩ := kO_ok e15
      obtain ⟨r12, e13, h⟩ := Option.bind_eq_some_iff.mp h
      replace h := xI_ok h
      obtain ⟨v14, P11, rfl, h⟩ := h
      refine x_callV (c_X11_of hl e13) dX11_gathers_28 cw_X11_of wl_X11_240 wi_X11_of wse_X11_of rfl e15 (by decide) rfl (by omega) (by decide) rfl (Nat.le_of_ble_eq_true rfl) rfl (fun v9 P9 hq9 => ?_) (fun i9 P9 hq9 => by cases hq9)
      cases hq9
      refine x_iload_n dX11_gathers_31 rfl ?_
      refine x_icmp_ne 130 dX11_gathers_32 (by decide) (fun q22 => ?_) (fun q22 => ?_)
      · rw [if_pos q22] at h
        refine x_iinc (a3 + 1) dX11_gathers_130 rfl (by rfl) ?_
        refine x_goto 7 dX11_gathers_133 (by decide) ?_
        exact Wp.mask [true, true, true, true, false, false] (hrec 7 _ _ _ h _ _ rfl _ hQ)
      · rw [if_neg (fun z9 => z9 q22)] at h
        refine x_aload_nr dX11_gathers_35 rfl ?_
        refine x_iload_n dX11_gathers_36 rfl ?_
        refine x_iload_n dX11_gathers_37 rfl ?_
        obtain ⟨_, e20, h⟩ := Option.bind_eq_some_iff.mp h
        obtain ⟨fse20, e20⟩ := kO_ok e20
        obtain ⟨r17, e18, h⟩ := Option.bind_eq_some_iff.mp h
        replace h := xI_ok h
        obtain ⟨v19, P16, rfl, h⟩ := h
        refine x_callV (c_X11_wasHad hl e18) dX11_gathers_38 cw_X11_wasHad wl_X11_331 wi_X11_wasHad wse_X11_wasHad rfl e20 (by decide) rfl (by omega) (by decide) rfl (Nat.le_of_ble_eq_true rfl) rfl (fun v9 P9 hq9 => ?_) (fun i9 P9 hq9 => by cases hq9)
        cases hq9
        refine x_if_ne 47 dX11_gathers_41 (by decide) (fun q21 => ?_) (fun q21 => ?_)
        · rw [if_pos q21] at h
          refine x_iconst 0 dX11_gathers_47 (by decide) ?_
          refine x_istore dX11_gathers_48 (Nat.le_of_ble_eq_true rfl) ?_
          refine x_iconst 0 dX11_gathers_50 (by decide) ?_
          refine x_istore dX11_gathers_51 (Nat.le_of_ble_eq_true rfl) ?_
          exact Wp.mask [true, true, true, true, true, true] (hrec 53 _ _ _ h _ _ rfl _ hQ)
        · rw [if_neg (fun z9 => z9 q21)] at h
          refine x_goto 130 dX11_gathers_44 (by decide) ?_
          refine x_iinc (a3 + 1) dX11_gathers_130 rfl (by rfl) ?_
          refine x_goto 7 dX11_gathers_133 (by decide) ?_
          exact Wp.mask [true, true, true, true, false, false] (hrec 7 _ _ _ h _ _ rfl _ hQ)
set_option maxHeartbeats 2000000 in
set_option maxRecDepth 20000 in
theorem t_X11_gathers_53 {G : xG} {l : Launch} (hl : l.stackTraces = false) {n : Nat} {rec : Nat → List Value → xH → xO} (hrec : ∀ pc env P z, rec pc env P = some z → ∀ L st, lay_X11_gathers pc env = some (L, st) → ∀ Q : xR → xH → Prop, Q z.1 z.2 → Wp G l 5 mX11_gathers pc L st P Q) {a0 a1 a2 a3 a4 a5} {P : xH} {z : xR × xH} (h : b_X11_gathers_53 n rec a0 a1 a2 a3 a4 a5 P = some z) {Q : xR → xH → Prop} (hQ : Q z.1 z.2) : Wp G l 5 mX11_gathers 53 [some (.ref a0), some (.int a1), some (.int a2), some (.int a3), some (.int a4), some (.int a5)] [] P Q := by
  unfold b_X11_gathers_53 at h
  refine x_iload dX11_gathers_53 rfl ?_
  refine x_aload_nr dX11_gathers_55 rfl ?_
  obtain ⟨_, e5, h⟩ := Option.bind_eq_some_iff.mp h
  obtain ⟨fse5, e5⟩ := kO_ok e5
  obtain ⟨r2, e3, h⟩ := Option.bind_eq_some_iff.mp h
  replace h := xI_ok h
  obtain ⟨v4, P1, rfl, h⟩ := h
  refine x_callV (c_X11_words hl e3) dX11_gathers_56 cw_X11_words wl_X11_72 wi_X11_words wse_X11_words rfl e5 (by decide) rfl (by omega) (by decide) rfl (Nat.le_of_ble_eq_true rfl) rfl (fun v9 P9 hq9 => ?_) (fun i9 P9 hq9 => by cases hq9)
  cases hq9
  refine x_icmp_ge 102 dX11_gathers_59 (by decide) (fun q30 => ?_) (fun q30 => ?_)
  · rw [if_pos q30] at h
    refine x_iload dX11_gathers_102 rfl ?_
    refine x_if_eq 110 dX11_gathers_104 (by decide) (fun q16 => ?_) (fun q16 => ?_)
    · rw [if_pos q16] at h
      refine x_aload_nr dX11_gathers_110 rfl ?_
      obtain ⟨v6, e7, h⟩ := Option.bind_eq_some_iff.mp h
      refine k_rA e7 dX11_gathers_111 f_X11_49 ?_
      refine x_aload_nr dX11_gathers_114 rfl ?_
      obtain ⟨v8, e9, h⟩ := Option.bind_eq_some_iff.mp h
      refine k_rI e9 dX11_gathers_115 f_X11_328 ?_
      refine x_iload_n dX11_gathers_118 rfl ?_
      obtain ⟨P10, e11, h⟩ := Option.bind_eq_some_iff.mp h
      refine k_sI e11 dX11_gathers_119 ?_
      refine x_aload_nr dX11_gathers_120 rfl ?_
      refine x_dup dX11_gathers_121 rfl ?_
      obtain ⟨v12, e13, h⟩ := Option.bind_eq_some_iff.mp h
      refine k_rI e13 dX11_gathers_122 f_X11_328 ?_
      refine x_iconst 1 dX11_gathers_125 (by decide) ?_
      refine x_iadd dX11_gathers_126 ?_
      obtain ⟨P14, e15, h⟩ := Option.bind_eq_some_iff.mp h
      refine k_wI e15 dX11_gathers_127 f_X11_328 (Or.inl (by decide)) rfl ?_
      refine x_iinc (a3 + 1) dX11_gathers_130 rfl (by rfl) ?_
      refine x_goto 7 dX11_gathers_133 (by decide) ?_
      exact Wp.mask [true, true, true, true, false, false] (hrec 7 _ _ _ h _ _ rfl _ hQ)
    · rw [if_neg q16] at h
      refine x_goto 130 dX11_gathers_107 (by decide) ?_
      refine x_iinc (a3 + 1) dX11_gathers_130 rfl (by rfl) ?_
      refine x_goto 7 dX11_gathers_133 (by decide) ?_
      exact Wp.mask [true, true, true, true, false, false] (hrec 7 _ _ _ h _ _ rfl _ hQ)
  · rw [if_neg q30] at h
    refine x_iload dX11_gathers_62 rfl ?_
    refine x_if_ne 89 dX11_gathers_64 (by decide) (fun q29 => ?_) (fun q29 => ?_)
    · rw [if_pos q29] at h
      refine x_iconst 1 dX11_gathers_89 (by decide) ?_
      refine x_goto 94 dX11_gathers_90 (by decide) ?_
      refine x_istore dX11_gathers_94 (Nat.le_of_ble_eq_true rfl) ?_
      refine x_iinc (a5 + 1) dX11_gathers_96 rfl (by rfl) ?_
      refine x_goto 53 dX11_gathers_99 (by decide) ?_
      exact Wp.mask [true, true, true, true, true, true] (hrec 53 _ _ _ h _ _ rfl _ hQ)
    · rw [if_neg (fun z9 => z9 q29)] at h
      refine x_aload_nr dX11_gathers_67 rfl ?_
      refine x_iload dX11_gathers_68 rfl ?_
      refine x_bipush 8 dX11_gathers_70 (by decide) ?_
      obtain ⟨_, e21, h⟩ := Option.bind_eq_some_iff.mp h
      obtain ⟨fse21, e21⟩ := kO_ok e21
      obtain ⟨r18, e19, h⟩ := Option.bind_eq_some_iff.mp h
      replace h := xI_ok h
      obtain ⟨v20, P17, rfl, h⟩ := h
      refine x_callV (c_X11_of hl e19) dX11_gathers_72 cw_X11_of wl_X11_240 wi_X11_of wse_X11_of rfl e21 (by decide) rfl (by omega) (by decide) rfl (Nat.le_of_ble_eq_true rfl) rfl (fun v9 P9 hq9 => ?_) (fun i9 P9 hq9 => by cases hq9)
      cases hq9
      refine x_iload_n dX11_gathers_75 rfl ?_
      refine x_icmp_ne 93 dX11_gathers_76 (by decide) (fun q28 => ?_) (fun q28 => ?_)
      · rw [if_pos q28] at h
        refine x_iconst 0 dX11_gathers_93 (by decide) ?_
        refine x_istore dX11_gathers_94 (Nat.le_of_ble_eq_true rfl) ?_
        refine x_iinc (a5 + 1) dX11_gathers_96 rfl (by rfl) ?_
        refine x_goto 53 dX11_gathers_99 (by decide) ?_
        exact Wp.mask [true, true, true, true, true, true] (hrec 53 _ _ _ h _ _ rfl _ hQ)
      · rw [if_neg (fun z9 => z9 q28)] at h
        refine x_aload_nr dX11_gathers_79 rfl ?_
        refine x_iload dX11_gathers_80 rfl ?_
        refine x_iload_n dX11_gathers_82 rfl ?_
        obtain ⟨_, e26, h⟩ := Option.bind_eq_some_iff.mp h
        obtain ⟨fse26, e26⟩ := kO_ok e26
        obtain ⟨r23, e24, h⟩ := Option.bind_eq_some_iff.mp h
        replace h := xI_ok h
        obtain ⟨v25, P22, rfl, h⟩ := h
        refine x_callV (c_X11_wasHad hl e24) dX11_gathers_83 cw_X11_wasHad wl_X11_331 wi_X11_wasHad wse_X11_wasHad rfl e26 (by decide) rfl (by omega) (by decide) rfl (Nat.le_of_ble_eq_true rfl) rfl (fun v9 P9 hq9 => ?_) (fun i9 P9 hq9 => by cases hq9)
        cases hq9
        refine x_if_eq 93 dX11_gathers_86 (by decide) (fun q27 => ?_) (fun q27 => ?_)
        · rw [if_pos q27] at h
          refine x_iconst 0 dX11_gathers_93 (by decide) ?_
          refine x_istore dX11_gathers_94 (Nat.le_of_ble_eq_true rfl) ?_
          refine x_iinc (a5 + 1) dX11_gathers_96 rfl (by rfl) ?_
          refine x_goto 53 dX11_gathers_99 (by decide) ?_
          exact Wp.mask [true, true, true, true, true, true] (hrec 53 _ _ _ h _ _ rfl _ hQ)
        · rw [if_neg q27] at h
          refine x_iconst 1 dX11_gathers_89 (by decide) ?_
          refine x_goto 94 dX11_gathers_90 (by decide) ?_
          refine x_istore dX11_gathers_94 (Nat.le_of_ble_eq_true rfl) ?_
          refine x_iinc (a5 + 1) dX11_gathers_96 rfl (by rfl) ?_
          refine x_goto 53 dX11_gathers_99 (by decide) ?_
          exact Wp.mask [true, true, true, true, true, true] (hrec 53 _ _ _ h _ _ rfl _ hQ)
theorem s_X11_gathers {G : xG} {l : Launch} (hl : l.stackTraces = false) : ∀ n pc env P z, f_X11_gathers n pc env P = some z → ∀ L st, lay_X11_gathers pc env = some (L, st) → ∀ Q : xR → xH → Prop, Q z.1 z.2 → Wp G l 5 mX11_gathers pc L st P Q := by
  intro n
  induction n with
  | zero => intro pc env P z h; cases h
  | succ n ih =>
    intro pc env P z h L st hlay Q hQ
    unfold f_X11_gathers at h
    split at h
    · cases hlay
      exact t_X11_gathers_0 hl ih h hQ
    · cases hlay
      exact t_X11_gathers_7 hl ih h hQ
    · cases hlay
      exact t_X11_gathers_53 hl ih h hQ
    · cases h
theorem c_X11_gathers {G : xG} {l : Launch} (hl : l.stackTraces = false) {n : Nat} {as : List Value} {P : xH} {z : xR × xH} (h : f_X11_gathers n 0 as P = some z) : Ct G l 5 mX11_gathers as P (fun r P1 => (r, P1) = z) := by
  cases n with
  | zero => cases h
  | succ n =>
    unfold f_X11_gathers at h
    split at h
    · exact Ct.of hl (by decide +kernel) wc_X11_gathers (Nat.le_of_ble_eq_true rfl) (t_X11_gathers_0 hl (s_X11_gathers hl _) h rfl)
    all_goals first | (cases h; done) | (rename_i q9 _; exact absurd q9 (by decide)) | (rename_i q9; exact absurd q9 (by decide)) | contradiction
/-! QuakeNetModel.sayings(IIZ)I -/
def b_X11_sayings_0 (n : Nat) (rec : Nat → List Value → xH → xO) (a0 : Nat) (a1 : Int32) (a2 : Int32) (a3 : Int32) (P : xH) : xO :=
  (wV P a0 11 0 (.int 0)).bind fun P1 =>
  (f_X11_noPerson n 0 [.int a1] P1).bind fun r4 => xI r4 fun v6 P3 =>
  (kO P3 a0 11).bind fun _ =>
  (f_X11_throwsIf n 0 [.ref a0, .int v6, .int 1] P3).bind fun r8 => xI r8 fun v10 P7 =>
  if v10 = 0 then
    (kO P7 a0 11).bind fun _ =>
    (f_X11_gathers n 0 [.ref a0, .int a1, .int a2] P7).bind fun r13 => xU r13 fun P12 =>
    rec 31 [.ref a0, .int a1, .int a2, .int a3, .int 0, .int 0] P12
  else
    some (.inl (some (.int 0)), P7)
def b_X11_sayings_31 (n : Nat) (rec : Nat → List Value → xH → xO) (a0 : Nat) (a1 : Int32) (a2 : Int32) (a3 : Int32) (a4 : Int32) (a5 : Int32) (P : xH) : xO :=
  (rI P a0 11 22).bind fun v1 =>
  if v1 ≤ a5 then
    if a3 = 0 then
      (rI P a0 11 22).bind fun v3 =>
      some (.inl (some (.int v3)), P)
    else
      (f_J6_bitCount_0f7a4 n 0 [.int a4] P).bind fun r6 => xI r6 fun v8 P5 =>
      some (.inl (some (.int v8)), P5)
  else
    (rA P a0 11 21).bind fun v10 =>
    (aI P v10 a5).bind fun v12 =>
    (kO P a0 11).bind fun _ =>
    (f_X11_of n 0 [.ref a0, .int v12, .int 1] P).bind fun r15 => xI r15 fun v17 P14 =>
    rec 31 [.ref a0, .int a1, .int a2, .int a3, .int ((a4 ||| ((1 <<< (v17 &&& 31))))), .int ((a5 + 1))] P14
def lay_X11_sayings : Nat → List Value → Option (xL × List Value)
  | 0, [a0, a1, a2, a3] => some ([some a0, some a1, some a2, some a3, none, none], [])
  | 31, [a0, a1, a2, a3, a4, a5] => some ([some a0, some a1, some a2, some a3, some a4, some a5], [])
  | _, _ => none
def f_X11_sayings : Nat → Nat → List Value → xH → xO
  | 0 => fun _ _ _ => none
  | n + 1 => fun pc env P => match pc, env with
    | 0, [.ref a0, .int a1, .int a2, .int a3] => b_X11_sayings_0 n (f_X11_sayings n) a0 a1 a2 a3 P
    | 31, [.ref a0, .int a1, .int a2, .int a3, .int a4, .int a5] => b_X11_sayings_31 n (f_X11_sayings n) a0 a1 a2 a3 a4 a5 P
    | _, _ => none
set_option maxHeartbeats 2000000 in
set_option maxRecDepth 20000 in
theorem t_X11_sayings_0 {G : xG} {l : Launch} (hl : l.stackTraces = false) {n : Nat} {rec : Nat → List Value → xH → xO} (hrec : ∀ pc env P z, rec pc env P = some z → ∀ L st, lay_X11_sayings pc env = some (L, st) → ∀ Q : xR → xH → Prop, Q z.1 z.2 → Wp G l 6 mX11_sayings pc L st P Q) {a0 a1 a2 a3} {P : xH} {z : xR × xH} (h : b_X11_sayings_0 n rec a0 a1 a2 a3 P = some z) {Q : xR → xH → Prop} (hQ : Q z.1 z.2) : Wp G l 6 mX11_sayings 0 [some (.ref a0), some (.int a1), some (.int a2), some (.int a3), none, none] [] P Q := by
  unfold b_X11_sayings_0 at h
  refine x_aload_nr dX11_sayings_0 rfl ?_
  refine x_iconst 0 dX11_sayings_1 (by decide) ?_
  obtain ⟨P1, e2, h⟩ := Option.bind_eq_some_iff.mp h
  refine k_wI e2 dX11_sayings_2 f_X11_3 (Or.inl (by decide)) rfl ?_
  refine x_aload_nr dX11_sayings_5 rfl ?_
  refine x_iload_n dX11_sayings_6 rfl ?_
  obtain ⟨r4, e5, h⟩ := Option.bind_eq_some_iff.mp h
  replace h := xI_ok h
  obtain ⟨v6, P3, rfl, h⟩ := h
  refine x_callS (c_X11_noPerson hl e5) dX11_sayings_7 cw_X11_noPerson wl_X11_312 ws_X11_noPerson rfl (by omega) (by decide) rfl (Nat.le_of_ble_eq_true rfl) rfl (fun v9 P9 hq9 => ?_) (fun i9 P9 hq9 => by cases hq9)
  cases hq9
  refine x_iconst 1 dX11_sayings_10 (by decide) ?_
  obtain ⟨_, e11, h⟩ := Option.bind_eq_some_iff.mp h
  obtain ⟨fse11, e11⟩ := kO_ok e11
  obtain ⟨r8, e9, h⟩ := Option.bind_eq_some_iff.mp h
  replace h := xI_ok h
  obtain ⟨v10, P7, rfl, h⟩ := h
  refine x_callV (c_X11_throwsIf hl e9) dX11_sayings_11 cw_X11_throwsIf wl_X11_93 wi_X11_throwsIf wse_X11_throwsIf rfl e11 (by decide) rfl (by omega) (by decide) rfl (Nat.le_of_ble_eq_true rfl) rfl (fun v9 P9 hq9 => ?_) (fun i9 P9 hq9 => by cases hq9)
  cases hq9
  refine x_if_eq 19 dX11_sayings_14 (by decide) (fun q16 => ?_) (fun q16 => ?_)
  · rw [if_pos q16] at h
    refine x_aload_nr dX11_sayings_19 rfl ?_
    refine x_iload_n dX11_sayings_20 rfl ?_
    refine x_iload_n dX11_sayings_21 rfl ?_
    obtain ⟨_, e15, h⟩ := Option.bind_eq_some_iff.mp h
    obtain ⟨fse15, e15⟩ := kO_ok e15
    obtain ⟨r13, e14, h⟩ := Option.bind_eq_some_iff.mp h
    replace h := xU_ok h
    obtain ⟨P12, rfl, h⟩ := h
    refine x_callV (c_X11_gathers hl e14) dX11_sayings_22 cw_X11_gathers wl_X11_337 wi_X11_gathers wse_X11_gathers rfl e15 (by decide) rfl (by omega) (by decide) rfl (Nat.le_of_ble_eq_true rfl) rfl (fun v9 P9 hq9 => ?_) (fun i9 P9 hq9 => by cases hq9)
    cases hq9
    refine x_iconst 0 dX11_sayings_25 (by decide) ?_
    refine x_istore dX11_sayings_26 (Nat.le_of_ble_eq_true rfl) ?_
    refine x_iconst 0 dX11_sayings_28 (by decide) ?_
    refine x_istore dX11_sayings_29 (Nat.le_of_ble_eq_true rfl) ?_
    exact Wp.mask [true, true, true, true, true, true] (hrec 31 _ _ _ h _ _ rfl _ hQ)
  · rw [if_neg q16] at h
    refine x_iconst 0 dX11_sayings_17 (by decide) ?_
    cases h
    exact x_iret .int rfl rfl dX11_sayings_18 hQ
set_option maxHeartbeats 2000000 in
set_option maxRecDepth 20000 in
theorem t_X11_sayings_31 {G : xG} {l : Launch} (hl : l.stackTraces = false) {n : Nat} {rec : Nat → List Value → xH → xO} (hrec : ∀ pc env P z, rec pc env P = some z → ∀ L st, lay_X11_sayings pc env = some (L, st) → ∀ Q : xR → xH → Prop, Q z.1 z.2 → Wp G l 6 mX11_sayings pc L st P Q) {a0 a1 a2 a3 a4 a5} {P : xH} {z : xR × xH} (h : b_X11_sayings_31 n rec a0 a1 a2 a3 a4 a5 P = some z) {Q : xR → xH → Prop} (hQ : Q z.1 z.2) : Wp G l 6 mX11_sayings 31 [some (.ref a0), some (.int a1), some (.int a2), some (.int a3), some (.int a4), some (.int a5)] [] P Q := by
  unfold b_X11_sayings_31 at h
  refine x_iload dX11_sayings_31 rfl ?_
  refine x_aload_nr dX11_sayings_33 rfl ?_
  obtain ⟨v1, e2, h⟩ := Option.bind_eq_some_iff.mp h
  refine k_rI e2 dX11_sayings_34 f_X11_328 ?_
  refine x_icmp_ge 65 dX11_sayings_37 (by decide) (fun q19 => ?_) (fun q19 => ?_)
  · rw [if_pos q19] at h
    refine x_iload_n dX11_sayings_65 rfl ?_
    refine x_if_eq 77 dX11_sayings_66 (by decide) (fun q9 => ?_) (fun q9 => ?_)
    · rw [if_pos q9] at h
      refine x_aload_nr dX11_sayings_77 rfl ?_
      obtain ⟨v3, e4, h⟩ := Option.bind_eq_some_iff.mp h
      refine k_rI e4 dX11_sayings_78 f_X11_328 ?_
      cases h
      exact x_iret .int rfl rfl dX11_sayings_81 hQ
    · rw [if_neg q9] at h
      refine x_iload dX11_sayings_69 rfl ?_
      obtain ⟨r6, e7, h⟩ := Option.bind_eq_some_iff.mp h
      replace h := xI_ok h
      obtain ⟨v8, P5, rfl, h⟩ := h
      refine x_callS (c_J6_bitCount_0f7a4 hl e7) dX11_sayings_71 cw_J6_bitCount_0f7a4 wl_X11_340 ws_J6_bitCount_0f7a4 rfl (by omega) (by decide) rfl (Nat.le_of_ble_eq_true rfl) rfl (fun v9 P9 hq9 => ?_) (fun i9 P9 hq9 => by cases hq9)
      cases hq9
      refine x_goto 81 dX11_sayings_74 (by decide) ?_
      cases h
      exact x_iret .int rfl rfl dX11_sayings_81 hQ
  · rw [if_neg q19] at h
    refine x_iload dX11_sayings_40 rfl ?_
    refine x_iconst 1 dX11_sayings_42 (by decide) ?_
    refine x_aload_nr dX11_sayings_43 rfl ?_
    refine x_aload_nr dX11_sayings_44 rfl ?_
    obtain ⟨v10, e11, h⟩ := Option.bind_eq_some_iff.mp h
    refine k_rA e11 dX11_sayings_45 f_X11_49 ?_
    refine x_iload dX11_sayings_48 rfl ?_
    obtain ⟨v12, e13, h⟩ := Option.bind_eq_some_iff.mp h
    refine k_aI e13 dX11_sayings_50 ?_
    refine x_iconst 1 dX11_sayings_51 (by decide) ?_
    obtain ⟨_, e18, h⟩ := Option.bind_eq_some_iff.mp h
    obtain ⟨fse18, e18⟩ := kO_ok e18
    obtain ⟨r15, e16, h⟩ := Option.bind_eq_some_iff.mp h
    replace h := xI_ok h
    obtain ⟨v17, P14, rfl, h⟩ := h
    refine x_callV (c_X11_of hl e16) dX11_sayings_52 cw_X11_of wl_X11_240 wi_X11_of wse_X11_of rfl e18 (by decide) rfl (by omega) (by decide) rfl (Nat.le_of_ble_eq_true rfl) rfl (fun v9 P9 hq9 => ?_) (fun i9 P9 hq9 => by cases hq9)
    cases hq9
    refine x_ishl dX11_sayings_55 ?_
    refine x_ior dX11_sayings_56 ?_
    refine x_istore dX11_sayings_57 (Nat.le_of_ble_eq_true rfl) ?_
    refine x_iinc (a5 + 1) dX11_sayings_59 rfl (by rfl) ?_
    refine x_goto 31 dX11_sayings_62 (by decide) ?_
    exact Wp.mask [true, true, true, true, true, true] (hrec 31 _ _ _ h _ _ rfl _ hQ)
theorem s_X11_sayings {G : xG} {l : Launch} (hl : l.stackTraces = false) : ∀ n pc env P z, f_X11_sayings n pc env P = some z → ∀ L st, lay_X11_sayings pc env = some (L, st) → ∀ Q : xR → xH → Prop, Q z.1 z.2 → Wp G l 6 mX11_sayings pc L st P Q := by
  intro n
  induction n with
  | zero => intro pc env P z h; cases h
  | succ n ih =>
    intro pc env P z h L st hlay Q hQ
    unfold f_X11_sayings at h
    split at h
    · cases hlay
      exact t_X11_sayings_0 hl ih h hQ
    · cases hlay
      exact t_X11_sayings_31 hl ih h hQ
    · cases h
theorem c_X11_sayings {G : xG} {l : Launch} (hl : l.stackTraces = false) {n : Nat} {as : List Value} {P : xH} {z : xR × xH} (h : f_X11_sayings n 0 as P = some z) : Ct G l 6 mX11_sayings as P (fun r P1 => (r, P1) = z) := by
  cases n with
  | zero => cases h
  | succ n =>
    unfold f_X11_sayings at h
    split at h
    · exact Ct.of hl (by decide +kernel) wc_X11_sayings (Nat.le_of_ble_eq_true rfl) (t_X11_sayings_0 hl (s_X11_sayings hl _) h rfl)
    all_goals first | (cases h; done) | (rename_i q9 _; exact absurd q9 (by decide)) | (rename_i q9; exact absurd q9 (by decide)) | contradiction
/-! QuakeNetModel.speed(I)V -/
def b_X11_speed_0 (n : Nat) (rec : Nat → List Value → xH → xO) (a0 : Nat) (a1 : Int32) (P : xH) : xO :=
  (wV P a0 11 0 (.int 0)).bind fun P1 =>
  (f_X11_in n 0 [.int a1, .int 1, .int 8] P1).bind fun r4 => xI r4 fun v6 P3 =>
  if ¬ v6 = 0 then
    rec 21 [.ref a0, .int a1, .ref a0, .int 0] P3
  else
    rec 21 [.ref a0, .int a1, .ref a0, .int 1] P3
def b_X11_speed_21 (n : Nat) (rec : Nat → List Value → xH → xO) (a0 : Nat) (a1 : Int32) (s0 : Nat) (s1 : Int32) (P : xH) : xO :=
  (kO P s0 11).bind fun _ =>
  (f_X11_throwsIf n 0 [.ref s0, .int s1, .int 1] P).bind fun r2 => xI r2 fun v4 P1 =>
  if v4 = 0 then
    (rA P1 a0 11 3).bind fun v6 =>
    (sI P1 v6 6 a1).bind fun P8 =>
    some (.inl none, P8)
  else
    some (.inl none, P1)
def lay_X11_speed : Nat → List Value → Option (xL × List Value)
  | 0, [a0, a1] => some ([some a0, some a1], [])
  | 21, [a0, a1, s0, s1] => some ([some a0, some a1], [s1, s0])
  | _, _ => none
def f_X11_speed : Nat → Nat → List Value → xH → xO
  | 0 => fun _ _ _ => none
  | n + 1 => fun pc env P => match pc, env with
    | 0, [.ref a0, .int a1] => b_X11_speed_0 n (f_X11_speed n) a0 a1 P
    | 21, [.ref a0, .int a1, .ref s0, .int s1] => b_X11_speed_21 n (f_X11_speed n) a0 a1 s0 s1 P
    | _, _ => none
set_option maxHeartbeats 2000000 in
set_option maxRecDepth 20000 in
theorem t_X11_speed_0 {G : xG} {l : Launch} (hl : l.stackTraces = false) {n : Nat} {rec : Nat → List Value → xH → xO} (hrec : ∀ pc env P z, rec pc env P = some z → ∀ L st, lay_X11_speed pc env = some (L, st) → ∀ Q : xR → xH → Prop, Q z.1 z.2 → Wp G l 4 mX11_speed pc L st P Q) {a0 a1} {P : xH} {z : xR × xH} (h : b_X11_speed_0 n rec a0 a1 P = some z) {Q : xR → xH → Prop} (hQ : Q z.1 z.2) : Wp G l 4 mX11_speed 0 [some (.ref a0), some (.int a1)] [] P Q := by
  unfold b_X11_speed_0 at h
  refine x_aload_nr dX11_speed_0 rfl ?_
  refine x_iconst 0 dX11_speed_1 (by decide) ?_
  obtain ⟨P1, e2, h⟩ := Option.bind_eq_some_iff.mp h
  refine k_wI e2 dX11_speed_2 f_X11_3 (Or.inl (by decide)) rfl ?_
  refine x_aload_nr dX11_speed_5 rfl ?_
  refine x_iload_n dX11_speed_6 rfl ?_
  refine x_iconst 1 dX11_speed_7 (by decide) ?_
  refine x_bipush 8 dX11_speed_8 (by decide) ?_
  obtain ⟨r4, e5, h⟩ := Option.bind_eq_some_iff.mp h
  replace h := xI_ok h
  obtain ⟨v6, P3, rfl, h⟩ := h
  refine x_callS (c_X11_in hl e5) dX11_speed_10 cw_X11_in wl_X11_68 ws_X11_in rfl (by omega) (by decide) rfl (Nat.le_of_ble_eq_true rfl) rfl (fun v9 P9 hq9 => ?_) (fun i9 P9 hq9 => by cases hq9)
  cases hq9
  refine x_if_ne 20 dX11_speed_13 (by decide) (fun q7 => ?_) (fun q7 => ?_)
  · rw [if_pos q7] at h
    refine x_iconst 0 dX11_speed_20 (by decide) ?_
    exact Wp.mask [true, true] (hrec 21 _ _ _ h _ _ rfl _ hQ)
  · rw [if_neg (fun z9 => z9 q7)] at h
    refine x_iconst 1 dX11_speed_16 (by decide) ?_
    refine x_goto 21 dX11_speed_17 (by decide) ?_
    exact Wp.mask [true, true] (hrec 21 _ _ _ h _ _ rfl _ hQ)
set_option maxHeartbeats 2000000 in
set_option maxRecDepth 20000 in
theorem t_X11_speed_21 {G : xG} {l : Launch} (hl : l.stackTraces = false) {n : Nat} {rec : Nat → List Value → xH → xO} (hrec : ∀ pc env P z, rec pc env P = some z → ∀ L st, lay_X11_speed pc env = some (L, st) → ∀ Q : xR → xH → Prop, Q z.1 z.2 → Wp G l 4 mX11_speed pc L st P Q) {a0 a1 s0 s1} {P : xH} {z : xR × xH} (h : b_X11_speed_21 n rec a0 a1 s0 s1 P = some z) {Q : xR → xH → Prop} (hQ : Q z.1 z.2) : Wp G l 4 mX11_speed 21 [some (.ref a0), some (.int a1)] [.int s1, .ref s0] P Q := by
  unfold b_X11_speed_21 at h
  refine x_iconst 1 dX11_speed_21 (by decide) ?_
  obtain ⟨_, e5, h⟩ := Option.bind_eq_some_iff.mp h
  obtain ⟨fse5, e5⟩ := kO_ok e5
  obtain ⟨r2, e3, h⟩ := Option.bind_eq_some_iff.mp h
  replace h := xI_ok h
  obtain ⟨v4, P1, rfl, h⟩ := h
  refine x_callV (c_X11_throwsIf hl e3) dX11_speed_22 cw_X11_throwsIf wl_X11_93 wi_X11_throwsIf wse_X11_throwsIf rfl e5 (by decide) rfl (by omega) (by decide) rfl (Nat.le_of_ble_eq_true rfl) rfl (fun v9 P9 hq9 => ?_) (fun i9 P9 hq9 => by cases hq9)
  cases hq9
  refine x_if_eq 29 dX11_speed_25 (by decide) (fun q10 => ?_) (fun q10 => ?_)
  · rw [if_pos q10] at h
    refine x_aload_nr dX11_speed_29 rfl ?_
    obtain ⟨v6, e7, h⟩ := Option.bind_eq_some_iff.mp h
    refine k_rA e7 dX11_speed_30 f_X11_20 ?_
    refine x_bipush 6 dX11_speed_33 (by decide) ?_
    refine x_iload_n dX11_speed_35 rfl ?_
    obtain ⟨P8, e9, h⟩ := Option.bind_eq_some_iff.mp h
    refine k_sI e9 dX11_speed_36 ?_
    cases h
    exact x_ret rfl dX11_speed_37 hQ
  · rw [if_neg q10] at h
    cases h
    exact x_ret rfl dX11_speed_28 hQ
theorem s_X11_speed {G : xG} {l : Launch} (hl : l.stackTraces = false) : ∀ n pc env P z, f_X11_speed n pc env P = some z → ∀ L st, lay_X11_speed pc env = some (L, st) → ∀ Q : xR → xH → Prop, Q z.1 z.2 → Wp G l 4 mX11_speed pc L st P Q := by
  intro n
  induction n with
  | zero => intro pc env P z h; cases h
  | succ n ih =>
    intro pc env P z h L st hlay Q hQ
    unfold f_X11_speed at h
    split at h
    · cases hlay
      exact t_X11_speed_0 hl ih h hQ
    · cases hlay
      exact t_X11_speed_21 hl ih h hQ
    · cases h
theorem c_X11_speed {G : xG} {l : Launch} (hl : l.stackTraces = false) {n : Nat} {as : List Value} {P : xH} {z : xR × xH} (h : f_X11_speed n 0 as P = some z) : Ct G l 4 mX11_speed as P (fun r P1 => (r, P1) = z) := by
  cases n with
  | zero => cases h
  | succ n =>
    unfold f_X11_speed at h
    split at h
    · exact Ct.of hl (by decide +kernel) wc_X11_speed (Nat.le_of_ble_eq_true rfl) (t_X11_speed_0 hl (s_X11_speed hl _) h rfl)
    all_goals first | (cases h; done) | (rename_i q9 _; exact absurd q9 (by decide)) | (rename_i q9; exact absurd q9 (by decide)) | contradiction
/-! QuakeNetModel.between(II)I -/
def b_X11_between_0 (n : Nat) (rec : Nat → List Value → xH → xO) (a0 : Int32) (a1 : Int32) (P : xH) : xO :=
  some (.inl (some (.int ((((mAbs ((((a0 - a0 / 4 * 4)) - ((a1 - a1 / 4 * 4)))))) + ((mAbs ((((a0 / 4)) - ((a1 / 4)))))))))), P)
def lay_X11_between : Nat → List Value → Option (xL × List Value)
  | 0, [a0, a1] => some ([some a0, some a1], [])
  | _, _ => none
def f_X11_between : Nat → Nat → List Value → xH → xO
  | 0 => fun _ _ _ => none
  | n + 1 => fun pc env P => match pc, env with
    | 0, [.int a0, .int a1] => b_X11_between_0 n (f_X11_between n) a0 a1 P
    | _, _ => none
set_option maxHeartbeats 2000000 in
set_option maxRecDepth 20000 in
theorem t_X11_between_0 {G : xG} {l : Launch} (hl : l.stackTraces = false) {n : Nat} {rec : Nat → List Value → xH → xO} (hrec : ∀ pc env P z, rec pc env P = some z → ∀ L st, lay_X11_between pc env = some (L, st) → ∀ Q : xR → xH → Prop, Q z.1 z.2 → Wp G l 7 mX11_between pc L st P Q) {a0 a1} {P : xH} {z : xR × xH} (h : b_X11_between_0 n rec a0 a1 P = some z) {Q : xR → xH → Prop} (hQ : Q z.1 z.2) : Wp G l 7 mX11_between 0 [some (.int a0), some (.int a1)] [] P Q := by
  unfold b_X11_between_0 at h
  refine x_iload_n dX11_between_0 rfl ?_
  refine x_iconst 4 dX11_between_1 (by decide) ?_
  refine x_irem dX11_between_2 (by decide) ?_
  refine x_iload_n dX11_between_3 rfl ?_
  refine x_iconst 4 dX11_between_4 (by decide) ?_
  refine x_irem dX11_between_5 (by decide) ?_
  refine x_isub dX11_between_6 ?_
  refine x_mabs dX11_between_7 wl_X11_75 (Nat.le_of_ble_eq_true rfl) (by omega) ?_
  refine x_iload_n dX11_between_10 rfl ?_
  refine x_iconst 4 dX11_between_11 (by decide) ?_
  refine x_idiv dX11_between_12 (by decide) ?_
  refine x_iload_n dX11_between_13 rfl ?_
  refine x_iconst 4 dX11_between_14 (by decide) ?_
  refine x_idiv dX11_between_15 (by decide) ?_
  refine x_isub dX11_between_16 ?_
  refine x_mabs dX11_between_17 wl_X11_75 (Nat.le_of_ble_eq_true rfl) (by omega) ?_
  refine x_iadd dX11_between_20 ?_
  cases h
  exact x_iret .int rfl rfl dX11_between_21 hQ
theorem s_X11_between {G : xG} {l : Launch} (hl : l.stackTraces = false) : ∀ n pc env P z, f_X11_between n pc env P = some z → ∀ L st, lay_X11_between pc env = some (L, st) → ∀ Q : xR → xH → Prop, Q z.1 z.2 → Wp G l 7 mX11_between pc L st P Q := by
  intro n
  induction n with
  | zero => intro pc env P z h; cases h
  | succ n ih =>
    intro pc env P z h L st hlay Q hQ
    unfold f_X11_between at h
    split at h
    · cases hlay
      exact t_X11_between_0 hl ih h hQ
    · cases h
theorem c_X11_between {G : xG} {l : Launch} (hl : l.stackTraces = false) {n : Nat} {as : List Value} {P : xH} {z : xR × xH} (h : f_X11_between n 0 as P = some z) : Ct G l 7 mX11_between as P (fun r P1 => (r, P1) = z) := by
  cases n with
  | zero => cases h
  | succ n =>
    unfold f_X11_between at h
    split at h
    · exact Ct.of hl (by decide +kernel) wc_X11_between (Nat.le_of_ble_eq_true rfl) (t_X11_between_0 hl (s_X11_between hl _) h rfl)
    all_goals first | (cases h; done) | (rename_i q9 _; exact absurd q9 (by decide)) | (rename_i q9; exact absurd q9 (by decide)) | contradiction
