/-! QuakeNet$Reader.next()V -/
def b_X3_next_0 (n : Nat) (rec : Nat → List Value → xH → xO) (a0 : Nat) (P : xH) : xO :=
  (rI P a0 3 4).bind fun v1 =>
  (rI P a0 3 2).bind fun v3 =>
  if v3 ≤ v1 then
    rec 38 [.ref a0] P
  else
    (rA P a0 3 1).bind fun v5 =>
    (rI P a0 3 4).bind fun v7 =>
    (aB P v5 v7).bind fun v9 =>
    if ¬ v9 = 32 then
      rec 38 [.ref a0] P
    else
      (rI P a0 3 4).bind fun v11 =>
      (wV P a0 3 4 (.int ((v11 + 1)))).bind fun P13 =>
      rec 0 [.ref a0] P13
def b_X3_next_38 (n : Nat) (rec : Nat → List Value → xH → xO) (a0 : Nat) (P : xH) : xO :=
  (rI P a0 3 4).bind fun v1 =>
  (wV P a0 3 6 (.int v1)).bind fun P3 =>
  (rI P3 a0 3 4).bind fun v5 =>
  (rI P3 a0 3 2).bind fun v7 =>
  if v5 < v7 then
    (wV P3 a0 3 7 (.int 0)).bind fun P9 =>
    rec 69 [.ref a0] P9
  else
    (wV P3 a0 3 5 (.int 21)).bind fun P11 =>
    some (.inl none, P11)
def b_X3_next_69 (n : Nat) (rec : Nat → List Value → xH → xO) (a0 : Nat) (P : xH) : xO :=
  (rI P a0 3 4).bind fun v1 =>
  (rI P a0 3 2).bind fun v3 =>
  if v3 ≤ v1 then
    rec 164 [.ref a0] P
  else
    (rA P a0 3 1).bind fun v5 =>
    (rI P a0 3 4).bind fun v7 =>
    (aB P v5 v7).bind fun v9 =>
    if v9 < 48 then
      rec 164 [.ref a0] P
    else
      (rA P a0 3 1).bind fun v11 =>
      (rI P a0 3 4).bind fun v13 =>
      (aB P v11 v13).bind fun v15 =>
      if 57 < v15 then
        rec 164 [.ref a0] P
      else
        (rI P a0 3 4).bind fun v17 =>
        (rI P a0 3 6).bind fun v19 =>
        if 4 ≤ ((v17 - v19)) then
          rec 148 [.ref a0, .ref a0, .int 10000] P
        else
          (rI P a0 3 7).bind fun v21 =>
          (rA P a0 3 1).bind fun v23 =>
          (rI P a0 3 4).bind fun v25 =>
          (aB P v23 v25).bind fun v27 =>
          rec 148 [.ref a0, .ref a0, .int ((((((10 * v21)) + v27)) - 48))] P
def b_X3_next_148 (n : Nat) (rec : Nat → List Value → xH → xO) (a0 : Nat) (s0 : Nat) (s1 : Int32) (P : xH) : xO :=
  (wV P s0 3 7 (.int s1)).bind fun P1 =>
  (rI P1 a0 3 4).bind fun v3 =>
  (wV P1 a0 3 4 (.int ((v3 + 1)))).bind fun P5 =>
  rec 69 [.ref a0] P5
def b_X3_next_164 (n : Nat) (rec : Nat → List Value → xH → xO) (a0 : Nat) (P : xH) : xO :=
  (rI P a0 3 4).bind fun v1 =>
  (rI P a0 3 6).bind fun v3 =>
  if v1 ≤ v3 then
    rec 182 [.ref a0] P
  else
    (wV P a0 3 5 (.int 20)).bind fun P5 =>
    some (.inl none, P5)
def b_X3_next_182 (n : Nat) (rec : Nat → List Value → xH → xO) (a0 : Nat) (P : xH) : xO :=
  (rI P a0 3 4).bind fun v1 =>
  (rI P a0 3 2).bind fun v3 =>
  if v3 ≤ v1 then
    rec 234 [.ref a0] P
  else
    (rA P a0 3 1).bind fun v5 =>
    (rI P a0 3 4).bind fun v7 =>
    (aB P v5 v7).bind fun v9 =>
    if v9 < 97 then
      rec 234 [.ref a0] P
    else
      (rA P a0 3 1).bind fun v11 =>
      (rI P a0 3 4).bind fun v13 =>
      (aB P v11 v13).bind fun v15 =>
      if 122 < v15 then
        rec 234 [.ref a0] P
      else
        (rI P a0 3 4).bind fun v17 =>
        (wV P a0 3 4 (.int ((v17 + 1)))).bind fun P19 =>
        rec 182 [.ref a0] P19
def b_X3_next_234 (n : Nat) (rec : Nat → List Value → xH → xO) (a0 : Nat) (P : xH) : xO :=
  (rI P a0 3 4).bind fun v1 =>
  (rI P a0 3 6).bind fun v3 =>
  if v1 ≤ v3 then
    (rA P a0 3 1).bind fun v5 =>
    (rI P a0 3 4).bind fun v7 =>
    (aB P v5 v7).bind fun v9 =>
    (wV P a0 3 5 (.int ((100 + ((v9 &&& 255)))))).bind fun P11 =>
    (rI P11 a0 3 4).bind fun v13 =>
    (wV P11 a0 3 4 (.int ((v13 + 1)))).bind fun P15 =>
    some (.inl none, P15)
  else
    (kO P a0 3).bind fun _ =>
    (f_X3_named n 0 [.ref a0] P).bind fun r18 => xI r18 fun v20 P17 =>
    (wV P17 a0 3 5 (.int v20)).bind fun P22 =>
    some (.inl none, P22)
def lay_X3_next : Nat → List Value → Option (xL × List Value)
  | 0, [a0] => some ([some a0], [])
  | 38, [a0] => some ([some a0], [])
  | 69, [a0] => some ([some a0], [])
  | 148, [a0, s0, s1] => some ([some a0], [s1, s0])
  | 164, [a0] => some ([some a0], [])
  | 182, [a0] => some ([some a0], [])
  | 234, [a0] => some ([some a0], [])
  | _, _ => none
def f_X3_next : Nat → Nat → List Value → xH → xO
  | 0 => fun _ _ _ => none
  | n + 1 => fun pc env P => match pc, env with
    | 0, [.ref a0] => b_X3_next_0 n (f_X3_next n) a0 P
    | 38, [.ref a0] => b_X3_next_38 n (f_X3_next n) a0 P
    | 69, [.ref a0] => b_X3_next_69 n (f_X3_next n) a0 P
    | 148, [.ref a0, .ref s0, .int s1] => b_X3_next_148 n (f_X3_next n) a0 s0 s1 P
    | 164, [.ref a0] => b_X3_next_164 n (f_X3_next n) a0 P
    | 182, [.ref a0] => b_X3_next_182 n (f_X3_next n) a0 P
    | 234, [.ref a0] => b_X3_next_234 n (f_X3_next n) a0 P
    | _, _ => none
set_option maxHeartbeats 2000000 in
set_option maxRecDepth 20000 in
theorem t_X3_next_0 {G : xG} {l : Launch} (hl : l.stackTraces = false) {n : Nat} {rec : Nat → List Value → xH → xO} (hrec : ∀ pc env P z, rec pc env P = some z → ∀ L st, lay_X3_next pc env = some (L, st) → ∀ Q : xR → xH → Prop, Q z.1 z.2 → Wp G l 8 mX3_next pc L st P Q) {a0} {P : xH} {z : xR × xH} (h : b_X3_next_0 n rec a0 P = some z) {Q : xR → xH → Prop} (hQ : Q z.1 z.2) : Wp G l 8 mX3_next 0 [some (.ref a0)] [] P Q := by
  unfold b_X3_next_0 at h
  refine x_aload_nr dX3_next_0 rfl ?_
  obtain ⟨v1, e2, h⟩ := Option.bind_eq_some_iff.mp h
  refine k_rI e2 dX3_next_1 f_X3_32 ?_
  refine x_aload_nr dX3_next_4 rfl ?_
  obtain ⟨v3, e4, h⟩ := Option.bind_eq_some_iff.mp h
  refine k_rI e4 dX3_next_5 f_X3_26 ?_
  refine x_icmp_ge 38 dX3_next_8 (by decide) (fun q16 => ?_) (fun q16 => ?_)
  · rw [if_pos q16] at h
    exact Wp.mask [true] (hrec 38 _ _ _ h _ _ rfl _ hQ)
  · rw [if_neg q16] at h
    refine x_aload_nr dX3_next_11 rfl ?_
    obtain ⟨v5, e6, h⟩ := Option.bind_eq_some_iff.mp h
    refine k_rA e6 dX3_next_12 f_X3_18 ?_
    refine x_aload_nr dX3_next_15 rfl ?_
    obtain ⟨v7, e8, h⟩ := Option.bind_eq_some_iff.mp h
    refine k_rI e8 dX3_next_16 f_X3_32 ?_
    obtain ⟨v9, e10, h⟩ := Option.bind_eq_some_iff.mp h
    refine k_aB e10 dX3_next_19 ?_
    refine x_bipush 32 dX3_next_20 (by decide) ?_
    refine x_icmp_ne 38 dX3_next_22 (by decide) (fun q15 => ?_) (fun q15 => ?_)
    · rw [if_pos q15] at h
      exact Wp.mask [true] (hrec 38 _ _ _ h _ _ rfl _ hQ)
    · rw [if_neg (fun z9 => z9 q15)] at h
      refine x_aload_nr dX3_next_25 rfl ?_
      refine x_dup dX3_next_26 rfl ?_
      obtain ⟨v11, e12, h⟩ := Option.bind_eq_some_iff.mp h
      refine k_rI e12 dX3_next_27 f_X3_32 ?_
      refine x_iconst 1 dX3_next_30 (by decide) ?_
      refine x_iadd dX3_next_31 ?_
      obtain ⟨P13, e14, h⟩ := Option.bind_eq_some_iff.mp h
      refine k_wI e14 dX3_next_32 f_X3_32 (Or.inl (by decide)) rfl ?_
      refine x_goto 0 dX3_next_35 (by decide) ?_
      exact Wp.mask [true] (hrec 0 _ _ _ h _ _ rfl _ hQ)
set_option maxHeartbeats 2000000 in
set_option maxRecDepth 20000 in
theorem t_X3_next_38 {G : xG} {l : Launch} (hl : l.stackTraces = false) {n : Nat} {rec : Nat → List Value → xH → xO} (hrec : ∀ pc env P z, rec pc env P = some z → ∀ L st, lay_X3_next pc env = some (L, st) → ∀ Q : xR → xH → Prop, Q z.1 z.2 → Wp G l 8 mX3_next pc L st P Q) {a0} {P : xH} {z : xR × xH} (h : b_X3_next_38 n rec a0 P = some z) {Q : xR → xH → Prop} (hQ : Q z.1 z.2) : Wp G l 8 mX3_next 38 [some (.ref a0)] [] P Q := by
  unfold b_X3_next_38 at h
  refine x_aload_nr dX3_next_38 rfl ?_
  refine x_aload_nr dX3_next_39 rfl ?_
  obtain ⟨v1, e2, h⟩ := Option.bind_eq_some_iff.mp h
  refine k_rI e2 dX3_next_40 f_X3_32 ?_
  obtain ⟨P3, e4, h⟩ := Option.bind_eq_some_iff.mp h
  refine k_wI e4 dX3_next_43 f_X3_69 (Or.inl (by decide)) rfl ?_
  refine x_aload_nr dX3_next_46 rfl ?_
  obtain ⟨v5, e6, h⟩ := Option.bind_eq_some_iff.mp h
  refine k_rI e6 dX3_next_47 f_X3_32 ?_
  refine x_aload_nr dX3_next_50 rfl ?_
  obtain ⟨v7, e8, h⟩ := Option.bind_eq_some_iff.mp h
  refine k_rI e8 dX3_next_51 f_X3_26 ?_
  refine x_icmp_lt 64 dX3_next_54 (by decide) (fun q13 => ?_) (fun q13 => ?_)
  · rw [if_pos q13] at h
    refine x_aload_nr dX3_next_64 rfl ?_
    refine x_iconst 0 dX3_next_65 (by decide) ?_
    obtain ⟨P9, e10, h⟩ := Option.bind_eq_some_iff.mp h
    refine k_wI e10 dX3_next_66 f_X3_48 (Or.inl (by decide)) rfl ?_
    exact Wp.mask [true] (hrec 69 _ _ _ h _ _ rfl _ hQ)
  · rw [if_neg q13] at h
    refine x_aload_nr dX3_next_57 rfl ?_
    refine x_bipush 21 dX3_next_58 (by decide) ?_
    obtain ⟨P11, e12, h⟩ := Option.bind_eq_some_iff.mp h
    refine k_wI e12 dX3_next_60 f_X3_38 (Or.inl (by decide)) rfl ?_
    cases h
    exact x_ret rfl dX3_next_63 hQ
set_option maxHeartbeats 2000000 in
set_option maxRecDepth 20000 in
theorem t_X3_next_69 {G : xG} {l : Launch} (hl : l.stackTraces = false) {n : Nat} {rec : Nat → List Value → xH → xO} (hrec : ∀ pc env P z, rec pc env P = some z → ∀ L st, lay_X3_next pc env = some (L, st) → ∀ Q : xR → xH → Prop, Q z.1 z.2 → Wp G l 8 mX3_next pc L st P Q) {a0} {P : xH} {z : xR × xH} (h : b_X3_next_69 n rec a0 P = some z) {Q : xR → xH → Prop} (hQ : Q z.1 z.2) : Wp G l 8 mX3_next 69 [some (.ref a0)] [] P Q := by
  unfold b_X3_next_69 at h
  refine x_aload_nr dX3_next_69 rfl ?_
  obtain ⟨v1, e2, h⟩ := Option.bind_eq_some_iff.mp h
  refine k_rI e2 dX3_next_70 f_X3_32 ?_
  refine x_aload_nr dX3_next_73 rfl ?_
  obtain ⟨v3, e4, h⟩ := Option.bind_eq_some_iff.mp h
  refine k_rI e4 dX3_next_74 f_X3_26 ?_
  refine x_icmp_ge 164 dX3_next_77 (by decide) (fun q32 => ?_) (fun q32 => ?_)
  · rw [if_pos q32] at h
    exact Wp.mask [true] (hrec 164 _ _ _ h _ _ rfl _ hQ)
  · rw [if_neg q32] at h
    refine x_aload_nr dX3_next_80 rfl ?_
    obtain ⟨v5, e6, h⟩ := Option.bind_eq_some_iff.mp h
    refine k_rA e6 dX3_next_81 f_X3_18 ?_
    refine x_aload_nr dX3_next_84 rfl ?_
    obtain ⟨v7, e8, h⟩ := Option.bind_eq_some_iff.mp h
    refine k_rI e8 dX3_next_85 f_X3_32 ?_
    obtain ⟨v9, e10, h⟩ := Option.bind_eq_some_iff.mp h
    refine k_aB e10 dX3_next_88 ?_
    refine x_bipush 48 dX3_next_89 (by decide) ?_
    refine x_icmp_lt 164 dX3_next_91 (by decide) (fun q31 => ?_) (fun q31 => ?_)
    · rw [if_pos q31] at h
      exact Wp.mask [true] (hrec 164 _ _ _ h _ _ rfl _ hQ)
    · rw [if_neg q31] at h
      refine x_aload_nr dX3_next_94 rfl ?_
      obtain ⟨v11, e12, h⟩ := Option.bind_eq_some_iff.mp h
      refine k_rA e12 dX3_next_95 f_X3_18 ?_
      refine x_aload_nr dX3_next_98 rfl ?_
      obtain ⟨v13, e14, h⟩ := Option.bind_eq_some_iff.mp h
      refine k_rI e14 dX3_next_99 f_X3_32 ?_
      obtain ⟨v15, e16, h⟩ := Option.bind_eq_some_iff.mp h
      refine k_aB e16 dX3_next_102 ?_
      refine x_bipush 57 dX3_next_103 (by decide) ?_
      refine x_icmp_gt 164 dX3_next_105 (by decide) (fun q30 => ?_) (fun q30 => ?_)
      · rw [if_pos q30] at h
        exact Wp.mask [true] (hrec 164 _ _ _ h _ _ rfl _ hQ)
      · rw [if_neg q30] at h
        refine x_aload_nr dX3_next_108 rfl ?_
        refine x_aload_nr dX3_next_109 rfl ?_
        obtain ⟨v17, e18, h⟩ := Option.bind_eq_some_iff.mp h
        refine k_rI e18 dX3_next_110 f_X3_32 ?_
        refine x_aload_nr dX3_next_113 rfl ?_
        obtain ⟨v19, e20, h⟩ := Option.bind_eq_some_iff.mp h
        refine k_rI e20 dX3_next_114 f_X3_69 ?_
        refine x_isub dX3_next_117 ?_
        refine x_iconst 4 dX3_next_118 (by decide) ?_
        refine x_icmp_ge 145 dX3_next_119 (by decide) (fun q29 => ?_) (fun q29 => ?_)
        · rw [if_pos q29] at h
          refine x_sipush 10000 dX3_next_145 (by decide) ?_
          exact Wp.mask [true] (hrec 148 _ _ _ h _ _ rfl _ hQ)
        · rw [if_neg q29] at h
          refine x_bipush 10 dX3_next_122 (by decide) ?_
          refine x_aload_nr dX3_next_124 rfl ?_
          obtain ⟨v21, e22, h⟩ := Option.bind_eq_some_iff.mp h
          refine k_rI e22 dX3_next_125 f_X3_48 ?_
          refine x_imul dX3_next_128 ?_
          refine x_aload_nr dX3_next_129 rfl ?_
          obtain ⟨v23, e24, h⟩ := Option.bind_eq_some_iff.mp h
          refine k_rA e24 dX3_next_130 f_X3_18 ?_
          refine x_aload_nr dX3_next_133 rfl ?_
          obtain ⟨v25, e26, h⟩ := Option.bind_eq_some_iff.mp h
          refine k_rI e26 dX3_next_134 f_X3_32 ?_
          obtain ⟨v27, e28, h⟩ := Option.bind_eq_some_iff.mp h
          refine k_aB e28 dX3_next_137 ?_
          refine x_iadd dX3_next_138 ?_
          refine x_bipush 48 dX3_next_139 (by decide) ?_
          refine x_isub dX3_next_141 ?_
          refine x_goto 148 dX3_next_142 (by decide) ?_
          exact Wp.mask [true] (hrec 148 _ _ _ h _ _ rfl _ hQ)
set_option maxHeartbeats 2000000 in
set_option maxRecDepth 20000 in
theorem t_X3_next_148 {G : xG} {l : Launch} (hl : l.stackTraces = false) {n : Nat} {rec : Nat → List Value → xH → xO} (hrec : ∀ pc env P z, rec pc env P = some z → ∀ L st, lay_X3_next pc env = some (L, st) → ∀ Q : xR → xH → Prop, Q z.1 z.2 → Wp G l 8 mX3_next pc L st P Q) {a0 s0 s1} {P : xH} {z : xR × xH} (h : b_X3_next_148 n rec a0 s0 s1 P = some z) {Q : xR → xH → Prop} (hQ : Q z.1 z.2) : Wp G l 8 mX3_next 148 [some (.ref a0)] [.int s1, .ref s0] P Q := by
  unfold b_X3_next_148 at h
  obtain ⟨P1, e2, h⟩ := Option.bind_eq_some_iff.mp h
  refine k_wI e2 dX3_next_148 f_X3_48 (Or.inl (by decide)) rfl ?_
  refine x_aload_nr dX3_next_151 rfl ?_
  refine x_dup dX3_next_152 rfl ?_
  obtain ⟨v3, e4, h⟩ := Option.bind_eq_some_iff.mp h
  refine k_rI e4 dX3_next_153 f_X3_32 ?_
  refine x_iconst 1 dX3_next_156 (by decide) ?_
  refine x_iadd dX3_next_157 ?_
  obtain ⟨P5, e6, h⟩ := Option.bind_eq_some_iff.mp h
  refine k_wI e6 dX3_next_158 f_X3_32 (Or.inl (by decide)) rfl ?_
  refine x_goto 69 dX3_next_161 (by decide) ?_
  exact Wp.mask [true] (hrec 69 _ _ _ h _ _ rfl _ hQ)
set_option maxHeartbeats 2000000 in
set_option maxRecDepth 20000 in
theorem t_X3_next_164 {G : xG} {l : Launch} (hl : l.stackTraces = false) {n : Nat} {rec : Nat → List Value → xH → xO} (hrec : ∀ pc env P z, rec pc env P = some z → ∀ L st, lay_X3_next pc env = some (L, st) → ∀ Q : xR → xH → Prop, Q z.1 z.2 → Wp G l 8 mX3_next pc L st P Q) {a0} {P : xH} {z : xR × xH} (h : b_X3_next_164 n rec a0 P = some z) {Q : xR → xH → Prop} (hQ : Q z.1 z.2) : Wp G l 8 mX3_next 164 [some (.ref a0)] [] P Q := by
  unfold b_X3_next_164 at h
  refine x_aload_nr dX3_next_164 rfl ?_
  obtain ⟨v1, e2, h⟩ := Option.bind_eq_some_iff.mp h
  refine k_rI e2 dX3_next_165 f_X3_32 ?_
  refine x_aload_nr dX3_next_168 rfl ?_
  obtain ⟨v3, e4, h⟩ := Option.bind_eq_some_iff.mp h
  refine k_rI e4 dX3_next_169 f_X3_69 ?_
  refine x_icmp_le 182 dX3_next_172 (by decide) (fun q7 => ?_) (fun q7 => ?_)
  · rw [if_pos q7] at h
    exact Wp.mask [true] (hrec 182 _ _ _ h _ _ rfl _ hQ)
  · rw [if_neg q7] at h
    refine x_aload_nr dX3_next_175 rfl ?_
    refine x_bipush 20 dX3_next_176 (by decide) ?_
    obtain ⟨P5, e6, h⟩ := Option.bind_eq_some_iff.mp h
    refine k_wI e6 dX3_next_178 f_X3_38 (Or.inl (by decide)) rfl ?_
    cases h
    exact x_ret rfl dX3_next_181 hQ
set_option maxHeartbeats 2000000 in
set_option maxRecDepth 20000 in
theorem t_X3_next_182 {G : xG} {l : Launch} (hl : l.stackTraces = false) {n : Nat} {rec : Nat → List Value → xH → xO} (hrec : ∀ pc env P z, rec pc env P = some z → ∀ L st, lay_X3_next pc env = some (L, st) → ∀ Q : xR → xH → Prop, Q z.1 z.2 → Wp G l 8 mX3_next pc L st P Q) {a0} {P : xH} {z : xR × xH} (h : b_X3_next_182 n rec a0 P = some z) {Q : xR → xH → Prop} (hQ : Q z.1 z.2) : Wp G l 8 mX3_next 182 [some (.ref a0)] [] P Q := by
  unfold b_X3_next_182 at h
  refine x_aload_nr dX3_next_182 rfl ?_
  obtain ⟨v1, e2, h⟩ := Option.bind_eq_some_iff.mp h
  refine k_rI e2 dX3_next_183 f_X3_32 ?_
  refine x_aload_nr dX3_next_186 rfl ?_
  obtain ⟨v3, e4, h⟩ := Option.bind_eq_some_iff.mp h
  refine k_rI e4 dX3_next_187 f_X3_26 ?_
  refine x_icmp_ge 234 dX3_next_190 (by decide) (fun q23 => ?_) (fun q23 => ?_)
  · rw [if_pos q23] at h
    exact Wp.mask [true] (hrec 234 _ _ _ h _ _ rfl _ hQ)
  · rw [if_neg q23] at h
    refine x_aload_nr dX3_next_193 rfl ?_
    obtain ⟨v5, e6, h⟩ := Option.bind_eq_some_iff.mp h
    refine k_rA e6 dX3_next_194 f_X3_18 ?_
    refine x_aload_nr dX3_next_197 rfl ?_
    obtain ⟨v7, e8, h⟩ := Option.bind_eq_some_iff.mp h
    refine k_rI e8 dX3_next_198 f_X3_32 ?_
    obtain ⟨v9, e10, h⟩ := Option.bind_eq_some_iff.mp h
    refine k_aB e10 dX3_next_201 ?_
    refine x_bipush 97 dX3_next_202 (by decide) ?_
    refine x_icmp_lt 234 dX3_next_204 (by decide) (fun q22 => ?_) (fun q22 => ?_)
    · rw [if_pos q22] at h
      exact Wp.mask [true] (hrec 234 _ _ _ h _ _ rfl _ hQ)
    · rw [if_neg q22] at h
      refine x_aload_nr dX3_next_207 rfl ?_
      obtain ⟨v11, e12, h⟩ := Option.bind_eq_some_iff.mp h
      refine k_rA e12 dX3_next_208 f_X3_18 ?_
      refine x_aload_nr dX3_next_211 rfl ?_
      obtain ⟨v13, e14, h⟩ := Option.bind_eq_some_iff.mp h
      refine k_rI e14 dX3_next_212 f_X3_32 ?_
      obtain ⟨v15, e16, h⟩ := Option.bind_eq_some_iff.mp h
      refine k_aB e16 dX3_next_215 ?_
      refine x_bipush 122 dX3_next_216 (by decide) ?_
      refine x_icmp_gt 234 dX3_next_218 (by decide) (fun q21 => ?_) (fun q21 => ?_)
      · rw [if_pos q21] at h
        exact Wp.mask [true] (hrec 234 _ _ _ h _ _ rfl _ hQ)
      · rw [if_neg q21] at h
        refine x_aload_nr dX3_next_221 rfl ?_
        refine x_dup dX3_next_222 rfl ?_
        obtain ⟨v17, e18, h⟩ := Option.bind_eq_some_iff.mp h
        refine k_rI e18 dX3_next_223 f_X3_32 ?_
        refine x_iconst 1 dX3_next_226 (by decide) ?_
        refine x_iadd dX3_next_227 ?_
        obtain ⟨P19, e20, h⟩ := Option.bind_eq_some_iff.mp h
        refine k_wI e20 dX3_next_228 f_X3_32 (Or.inl (by decide)) rfl ?_
        refine x_goto 182 dX3_next_231 (by decide) ?_
        exact Wp.mask [true] (hrec 182 _ _ _ h _ _ rfl _ hQ)
set_option maxHeartbeats 2000000 in
set_option maxRecDepth 20000 in
theorem t_X3_next_234 {G : xG} {l : Launch} (hl : l.stackTraces = false) {n : Nat} {rec : Nat → List Value → xH → xO} (hrec : ∀ pc env P z, rec pc env P = some z → ∀ L st, lay_X3_next pc env = some (L, st) → ∀ Q : xR → xH → Prop, Q z.1 z.2 → Wp G l 8 mX3_next pc L st P Q) {a0} {P : xH} {z : xR × xH} (h : b_X3_next_234 n rec a0 P = some z) {Q : xR → xH → Prop} (hQ : Q z.1 z.2) : Wp G l 8 mX3_next 234 [some (.ref a0)] [] P Q := by
  unfold b_X3_next_234 at h
  refine x_aload_nr dX3_next_234 rfl ?_
  obtain ⟨v1, e2, h⟩ := Option.bind_eq_some_iff.mp h
  refine k_rI e2 dX3_next_235 f_X3_32 ?_
  refine x_aload_nr dX3_next_238 rfl ?_
  obtain ⟨v3, e4, h⟩ := Option.bind_eq_some_iff.mp h
  refine k_rI e4 dX3_next_239 f_X3_69 ?_
  refine x_icmp_le 254 dX3_next_242 (by decide) (fun q24 => ?_) (fun q24 => ?_)
  · rw [if_pos q24] at h
    refine x_aload_nr dX3_next_254 rfl ?_
    refine x_bipush 100 dX3_next_255 (by decide) ?_
    refine x_aload_nr dX3_next_257 rfl ?_
    obtain ⟨v5, e6, h⟩ := Option.bind_eq_some_iff.mp h
    refine k_rA e6 dX3_next_258 f_X3_18 ?_
    refine x_aload_nr dX3_next_261 rfl ?_
    obtain ⟨v7, e8, h⟩ := Option.bind_eq_some_iff.mp h
    refine k_rI e8 dX3_next_262 f_X3_32 ?_
    obtain ⟨v9, e10, h⟩ := Option.bind_eq_some_iff.mp h
    refine k_aB e10 dX3_next_265 ?_
    refine x_sipush 255 dX3_next_266 (by decide) ?_
    refine x_iand dX3_next_269 ?_
    refine x_iadd dX3_next_270 ?_
    obtain ⟨P11, e12, h⟩ := Option.bind_eq_some_iff.mp h
    refine k_wI e12 dX3_next_271 f_X3_38 (Or.inl (by decide)) rfl ?_
    refine x_aload_nr dX3_next_274 rfl ?_
    refine x_dup dX3_next_275 rfl ?_
    obtain ⟨v13, e14, h⟩ := Option.bind_eq_some_iff.mp h
    refine k_rI e14 dX3_next_276 f_X3_32 ?_
    refine x_iconst 1 dX3_next_279 (by decide) ?_
    refine x_iadd dX3_next_280 ?_
    obtain ⟨P15, e16, h⟩ := Option.bind_eq_some_iff.mp h
    refine k_wI e16 dX3_next_281 f_X3_32 (Or.inl (by decide)) rfl ?_
    cases h
    exact x_ret rfl dX3_next_284 hQ
  · rw [if_neg q24] at h
    refine x_aload_nr dX3_next_245 rfl ?_
    refine x_aload_nr dX3_next_246 rfl ?_
    obtain ⟨_, e21, h⟩ := Option.bind_eq_some_iff.mp h
    obtain ⟨fse21, e21⟩ := kO_ok e21
    obtain ⟨r18, e19, h⟩ := Option.bind_eq_some_iff.mp h
    replace h := xI_ok h
    obtain ⟨v20, P17, rfl, h⟩ := h
    refine x_callV (c_X3_named hl e19) dX3_next_247 cw_X3_named wl_X3_72 wi_X3_named wse_X3_named rfl e21 (by decide) rfl (by omega) (by decide) rfl (Nat.le_of_ble_eq_true rfl) rfl (fun v9 P9 hq9 => ?_) (fun i9 P9 hq9 => by cases hq9)
    cases hq9
    obtain ⟨P22, e23, h⟩ := Option.bind_eq_some_iff.mp h
    refine k_wI e23 dX3_next_250 f_X3_38 (Or.inl (by decide)) rfl ?_
    cases h
    exact x_ret rfl dX3_next_253 hQ
theorem s_X3_next {G : xG} {l : Launch} (hl : l.stackTraces = false) : ∀ n pc env P z, f_X3_next n pc env P = some z → ∀ L st, lay_X3_next pc env = some (L, st) → ∀ Q : xR → xH → Prop, Q z.1 z.2 → Wp G l 8 mX3_next pc L st P Q := by
  intro n
  induction n with
  | zero => intro pc env P z h; cases h
  | succ n ih =>
    intro pc env P z h L st hlay Q hQ
    unfold f_X3_next at h
    split at h
    · cases hlay
      exact t_X3_next_0 hl ih h hQ
    · cases hlay
      exact t_X3_next_38 hl ih h hQ
    · cases hlay
      exact t_X3_next_69 hl ih h hQ
    · cases hlay
      exact t_X3_next_148 hl ih h hQ
    · cases hlay
      exact t_X3_next_164 hl ih h hQ
    · cases hlay
      exact t_X3_next_182 hl ih h hQ
    · cases hlay
      exact t_X3_next_234 hl ih h hQ
    · cases h
theorem c_X3_next {G : xG} {l : Launch} (hl : l.stackTraces = false) {n : Nat} {as : List Value} {P : xH} {z : xR × xH} (h : f_X3_next n 0 as P = some z) : Ct G l 8 mX3_next as P (fun r P1 => (r, P1) = z) := by
  cases n with
  | zero => cases h
  | succ n =>
    unfold f_X3_next at h
    split at h
    · exact Ct.of hl (by decide +kernel) wc_X3_next (Nat.le_of_ble_eq_true rfl) (t_X3_next_0 hl (s_X3_next hl _) h rfl)
    all_goals first | (cases h; done) | (rename_i q9 _; exact absurd q9 (by decide)) | (rename_i q9; exact absurd q9 (by decide)) | contradiction
/-! QuakeNet$Rules.addStep(III)V -/
def b_X5_addStep_0 (n : Nat) (rec : Nat → List Value → xH → xO) (a0 : Nat) (a1 : Int32) (a2 : Int32) (a3 : Int32) (P : xH) : xO :=
  (rI P a0 5 5).bind fun v1 =>
  (rA P a0 5 4).bind fun v3 =>
  (aL P v3).bind fun v5 =>
  if v5 ≤ v1 then
    some (.inl none, P)
  else
    (rA P a0 5 4).bind fun v7 =>
    (rI P a0 5 5).bind fun v9 =>
    (sI P v7 v9 ((((((a3 <<< (8 &&& 31))) ||| ((a2 <<< (4 &&& 31))))) ||| a1))).bind fun P11 =>
    (rI P11 a0 5 5).bind fun v13 =>
    (wV P11 a0 5 5 (.int ((v13 + 1)))).bind fun P15 =>
    (rA P15 a0 5 2).bind fun v17 =>
    (rI P15 a0 5 3).bind fun v19 =>
    (rI P15 a0 5 5).bind fun v21 =>
    (sI P15 v17 v19 v21).bind fun P23 =>
    some (.inl none, P23)
def lay_X5_addStep : Nat → List Value → Option (xL × List Value)
  | 0, [a0, a1, a2, a3] => some ([some a0, some a1, some a2, some a3], [])
  | _, _ => none
def f_X5_addStep : Nat → Nat → List Value → xH → xO
  | 0 => fun _ _ _ => none
  | n + 1 => fun pc env P => match pc, env with
    | 0, [.ref a0, .int a1, .int a2, .int a3] => b_X5_addStep_0 n (f_X5_addStep n) a0 a1 a2 a3 P
    | _, _ => none
set_option maxHeartbeats 2000000 in
set_option maxRecDepth 20000 in
theorem t_X5_addStep_0 {G : xG} {l : Launch} (hl : l.stackTraces = false) {n : Nat} {rec : Nat → List Value → xH → xO} (hrec : ∀ pc env P z, rec pc env P = some z → ∀ L st, lay_X5_addStep pc env = some (L, st) → ∀ Q : xR → xH → Prop, Q z.1 z.2 → Wp G l 3 mX5_addStep pc L st P Q) {a0 a1 a2 a3} {P : xH} {z : xR × xH} (h : b_X5_addStep_0 n rec a0 a1 a2 a3 P = some z) {Q : xR → xH → Prop} (hQ : Q z.1 z.2) : Wp G l 3 mX5_addStep 0 [some (.ref a0), some (.int a1), some (.int a2), some (.int a3)] [] P Q := by
  unfold b_X5_addStep_0 at h
  refine x_aload_nr dX5_addStep_0 rfl ?_
  obtain ⟨v1, e2, h⟩ := Option.bind_eq_some_iff.mp h
  refine k_rI e2 dX5_addStep_1 f_X5_29 ?_
  refine x_aload_nr dX5_addStep_4 rfl ?_
  obtain ⟨v3, e4, h⟩ := Option.bind_eq_some_iff.mp h
  refine k_rA e4 dX5_addStep_5 f_X5_19 ?_
  obtain ⟨v5, e6, h⟩ := Option.bind_eq_some_iff.mp h
  refine k_aL e6 dX5_addStep_8 ?_
  refine x_icmp_ge 54 dX5_addStep_9 (by decide) (fun q25 => ?_) (fun q25 => ?_)
  · rw [if_pos q25] at h
    cases h
    exact x_ret rfl dX5_addStep_54 hQ
  · rw [if_neg q25] at h
    refine x_aload_nr dX5_addStep_12 rfl ?_
    obtain ⟨v7, e8, h⟩ := Option.bind_eq_some_iff.mp h
    refine k_rA e8 dX5_addStep_13 f_X5_19 ?_
    refine x_aload_nr dX5_addStep_16 rfl ?_
    obtain ⟨v9, e10, h⟩ := Option.bind_eq_some_iff.mp h
    refine k_rI e10 dX5_addStep_17 f_X5_29 ?_
    refine x_iload_n dX5_addStep_20 rfl ?_
    refine x_bipush 8 dX5_addStep_21 (by decide) ?_
    refine x_ishl dX5_addStep_23 ?_
    refine x_iload_n dX5_addStep_24 rfl ?_
    refine x_iconst 4 dX5_addStep_25 (by decide) ?_
    refine x_ishl dX5_addStep_26 ?_
    refine x_ior dX5_addStep_27 ?_
    refine x_iload_n dX5_addStep_28 rfl ?_
    refine x_ior dX5_addStep_29 ?_
    obtain ⟨P11, e12, h⟩ := Option.bind_eq_some_iff.mp h
    refine k_sI e12 dX5_addStep_30 ?_
    refine x_aload_nr dX5_addStep_31 rfl ?_
    refine x_dup dX5_addStep_32 rfl ?_
    obtain ⟨v13, e14, h⟩ := Option.bind_eq_some_iff.mp h
    refine k_rI e14 dX5_addStep_33 f_X5_29 ?_
    refine x_iconst 1 dX5_addStep_36 (by decide) ?_
    refine x_iadd dX5_addStep_37 ?_
    obtain ⟨P15, e16, h⟩ := Option.bind_eq_some_iff.mp h
    refine k_wI e16 dX5_addStep_38 f_X5_29 (Or.inl (by decide)) rfl ?_
    refine x_aload_nr dX5_addStep_41 rfl ?_
    obtain ⟨v17, e18, h⟩ := Option.bind_eq_some_iff.mp h
    refine k_rA e18 dX5_addStep_42 f_X5_16 ?_
    refine x_aload_nr dX5_addStep_45 rfl ?_
    obtain ⟨v19, e20, h⟩ := Option.bind_eq_some_iff.mp h
    refine k_rI e20 dX5_addStep_46 f_X5_25 ?_
    refine x_aload_nr dX5_addStep_49 rfl ?_
    obtain ⟨v21, e22, h⟩ := Option.bind_eq_some_iff.mp h
    refine k_rI e22 dX5_addStep_50 f_X5_29 ?_
    obtain ⟨P23, e24, h⟩ := Option.bind_eq_some_iff.mp h
    refine k_sI e24 dX5_addStep_53 ?_
    cases h
    exact x_ret rfl dX5_addStep_54 hQ
theorem s_X5_addStep {G : xG} {l : Launch} (hl : l.stackTraces = false) : ∀ n pc env P z, f_X5_addStep n pc env P = some z → ∀ L st, lay_X5_addStep pc env = some (L, st) → ∀ Q : xR → xH → Prop, Q z.1 z.2 → Wp G l 3 mX5_addStep pc L st P Q := by
  intro n
  induction n with
  | zero => intro pc env P z h; cases h
  | succ n ih =>
    intro pc env P z h L st hlay Q hQ
    unfold f_X5_addStep at h
    split at h
    · cases hlay
      exact t_X5_addStep_0 hl ih h hQ
    · cases h
theorem c_X5_addStep {G : xG} {l : Launch} (hl : l.stackTraces = false) {n : Nat} {as : List Value} {P : xH} {z : xR × xH} (h : f_X5_addStep n 0 as P = some z) : Ct G l 3 mX5_addStep as P (fun r P1 => (r, P1) = z) := by
  cases n with
  | zero => cases h
  | succ n =>
    unfold f_X5_addStep at h
    split at h
    · exact Ct.of hl (by decide +kernel) wc_X5_addStep (Nat.le_of_ble_eq_true rfl) (t_X5_addStep_0 hl (s_X5_addStep hl _) h rfl)
    all_goals first | (cases h; done) | (rename_i q9 _; exact absurd q9 (by decide)) | (rename_i q9; exact absurd q9 (by decide)) | contradiction
/-! QuakeNet$Reader.readFact()Z -/
def b_X3_readFact_0 (n : Nat) (rec : Nat → List Value → xH → xO) (a0 : Nat) (P : xH) : xO :=
  (rI P a0 3 5).bind fun v1 =>
  if v1 < 8 then
    rec 40 [.ref a0] P
  else
    (rI P a0 3 5).bind fun v3 =>
    if 15 ≤ v3 then
      rec 40 [.ref a0] P
    else
      (rA P a0 3 0).bind fun v5 =>
      (rI P a0 3 5).bind fun v7 =>
      (kO P v5 5).bind fun _ =>
      (f_X5_addStep n 0 [.ref v5, .int 0, .int ((v7 - 8)), .int 0] P).bind fun r10 => xU r10 fun P9 =>
      (kO P9 a0 3).bind fun _ =>
      (f_X3_next n 0 [.ref a0] P9).bind fun r14 => xU r14 fun P13 =>
      some (.inl (some (.int 1)), P13)
def b_X3_readFact_40 (n : Nat) (rec : Nat → List Value → xH → xO) (a0 : Nat) (P : xH) : xO :=
  (rI P a0 3 5).bind fun v1 =>
  if v1 < 15 then
    rec 58 [.ref a0] P
  else
    (rI P a0 3 5).bind fun v3 =>
    if v3 < 20 then
      (rI P a0 3 5).bind fun v5 =>
      (kO P a0 3).bind fun _ =>
      (f_X3_next n 0 [.ref a0] P).bind fun r8 => xU r8 fun P7 =>
      (rI P7 a0 3 5).bind fun v11 =>
      if ¬ v11 = 160 then
        rec 90 [.ref a0, .int ((v5 - 15)), .int 0] P7
      else
        rec 90 [.ref a0, .int ((v5 - 15)), .int 1] P7
    else
      rec 58 [.ref a0] P
def b_X3_readFact_58 (n : Nat) (rec : Nat → List Value → xH → xO) (a0 : Nat) (P : xH) : xO :=
  (kO P a0 3).bind fun _ =>
  (f_X3_fail n 0 [.ref a0] P).bind fun r2 => xI r2 fun v4 P1 =>
  if v4 = 0 ∨ v4 = 1 then some (.inl (some (.int v4)), P1) else none
def b_X3_readFact_90 (n : Nat) (rec : Nat → List Value → xH → xO) (a0 : Nat) (a1 : Int32) (s0 : Int32) (P : xH) : xO :=
  if ¬ s0 = 0 then
    rec 110 [.ref a0, .int a1, .int s0] P
  else
    (rI P a0 3 5).bind fun v1 =>
    if v1 = 162 then
      rec 110 [.ref a0, .int a1, .int s0] P
    else
      (kO P a0 3).bind fun _ =>
      (f_X3_fail n 0 [.ref a0] P).bind fun r4 => xI r4 fun v6 P3 =>
      if v6 = 0 ∨ v6 = 1 then some (.inl (some (.int v6)), P3) else none
def b_X3_readFact_110 (n : Nat) (rec : Nat → List Value → xH → xO) (a0 : Nat) (a1 : Int32) (a2 : Int32) (P : xH) : xO :=
  (kO P a0 3).bind fun _ =>
  (f_X3_next n 0 [.ref a0] P).bind fun r2 => xU r2 fun P1 =>
  (rI P1 a0 3 5).bind fun v5 =>
  if ¬ v5 = 20 then
    rec 133 [.ref a0, .int a1, .int a2] P1
  else
    (rI P1 a0 3 7).bind fun v7 =>
    if v7 ≤ 9999 then
      (rA P1 a0 3 0).bind fun v9 =>
      if a2 = 0 then
        rec 151 [.ref a0, .int a1, .int a2, .ref v9, .int 2] P1
      else
        rec 151 [.ref a0, .int a1, .int a2, .ref v9, .int 1] P1
    else
      rec 133 [.ref a0, .int a1, .int a2] P1
def b_X3_readFact_133 (n : Nat) (rec : Nat → List Value → xH → xO) (a0 : Nat) (a1 : Int32) (a2 : Int32) (P : xH) : xO :=
  (kO P a0 3).bind fun _ =>
  (f_X3_fail n 0 [.ref a0] P).bind fun r2 => xI r2 fun v4 P1 =>
  if v4 = 0 ∨ v4 = 1 then some (.inl (some (.int v4)), P1) else none
def b_X3_readFact_151 (n : Nat) (rec : Nat → List Value → xH → xO) (a0 : Nat) (a1 : Int32) (a2 : Int32) (s0 : Nat) (s1 : Int32) (P : xH) : xO :=
  (rI P a0 3 7).bind fun v1 =>
  (kO P s0 5).bind fun _ =>
  (f_X5_addStep n 0 [.ref s0, .int s1, .int a1, .int v1] P).bind fun r4 => xU r4 fun P3 =>
  (kO P3 a0 3).bind fun _ =>
  (f_X3_next n 0 [.ref a0] P3).bind fun r8 => xU r8 fun P7 =>
  some (.inl (some (.int 1)), P7)
def lay_X3_readFact : Nat → List Value → Option (xL × List Value)
  | 0, [a0] => some ([some a0, none, none], [])
  | 40, [a0] => some ([some a0, none, none], [])
  | 58, [a0] => some ([some a0, none, none], [])
  | 90, [a0, a1, s0] => some ([some a0, some a1, none], [s0])
  | 110, [a0, a1, a2] => some ([some a0, some a1, some a2], [])
  | 133, [a0, a1, a2] => some ([some a0, some a1, some a2], [])
  | 151, [a0, a1, a2, s0, s1] => some ([some a0, some a1, some a2], [s1, s0])
  | _, _ => none
def f_X3_readFact : Nat → Nat → List Value → xH → xO
  | 0 => fun _ _ _ => none
  | n + 1 => fun pc env P => match pc, env with
    | 0, [.ref a0] => b_X3_readFact_0 n (f_X3_readFact n) a0 P
    | 40, [.ref a0] => b_X3_readFact_40 n (f_X3_readFact n) a0 P
    | 58, [.ref a0] => b_X3_readFact_58 n (f_X3_readFact n) a0 P
    | 90, [.ref a0, .int a1, .int s0] => b_X3_readFact_90 n (f_X3_readFact n) a0 a1 s0 P
    | 110, [.ref a0, .int a1, .int a2] => b_X3_readFact_110 n (f_X3_readFact n) a0 a1 a2 P
    | 133, [.ref a0, .int a1, .int a2] => b_X3_readFact_133 n (f_X3_readFact n) a0 a1 a2 P
    | 151, [.ref a0, .int a1, .int a2, .ref s0, .int s1] => b_X3_readFact_151 n (f_X3_readFact n) a0 a1 a2 s0 s1 P
    | _, _ => none
set_option maxHeartbeats 2000000 in
set_option maxRecDepth 20000 in
theorem t_X3_readFact_0 {G : xG} {l : Launch} (hl : l.stackTraces = false) {n : Nat} {rec : Nat → List Value → xH → xO} (hrec : ∀ pc env P z, rec pc env P = some z → ∀ L st, lay_X3_readFact pc env = some (L, st) → ∀ Q : xR → xH → Prop, Q z.1 z.2 → Wp G l 9 mX3_readFact pc L st P Q) {a0} {P : xH} {z : xR × xH} (h : b_X3_readFact_0 n rec a0 P = some z) {Q : xR → xH → Prop} (hQ : Q z.1 z.2) : Wp G l 9 mX3_readFact 0 [some (.ref a0), none, none] [] P Q := by
  unfold b_X3_readFact_0 at h
  refine x_aload_nr dX3_readFact_0 rfl ?_
  obtain ⟨v1, e2, h⟩ := Option.bind_eq_some_iff.mp h
  refine k_rI e2 dX3_readFact_1 f_X3_38 ?_
  refine x_bipush 8 dX3_readFact_4 (by decide) ?_
  refine x_icmp_lt 40 dX3_readFact_6 (by decide) (fun q18 => ?_) (fun q18 => ?_)
  · rw [if_pos q18] at h
    exact Wp.mask [true, false, false] (hrec 40 _ _ _ h _ _ rfl _ hQ)
  · rw [if_neg q18] at h
    refine x_aload_nr dX3_readFact_9 rfl ?_
    obtain ⟨v3, e4, h⟩ := Option.bind_eq_some_iff.mp h
    refine k_rI e4 dX3_readFact_10 f_X3_38 ?_
    refine x_bipush 15 dX3_readFact_13 (by decide) ?_
    refine x_icmp_ge 40 dX3_readFact_15 (by decide) (fun q17 => ?_) (fun q17 => ?_)
    · rw [if_pos q17] at h
      exact Wp.mask [true, false, false] (hrec 40 _ _ _ h _ _ rfl _ hQ)
    · rw [if_neg q17] at h
      refine x_aload_nr dX3_readFact_18 rfl ?_
      obtain ⟨v5, e6, h⟩ := Option.bind_eq_some_iff.mp h
      refine k_rA e6 dX3_readFact_19 f_X3_12 ?_
      refine x_iconst 0 dX3_readFact_22 (by decide) ?_
      refine x_aload_nr dX3_readFact_23 rfl ?_
      obtain ⟨v7, e8, h⟩ := Option.bind_eq_some_iff.mp h
      refine k_rI e8 dX3_readFact_24 f_X3_38 ?_
      refine x_bipush 8 dX3_readFact_27 (by decide) ?_
      refine x_isub dX3_readFact_29 ?_
      refine x_iconst 0 dX3_readFact_30 (by decide) ?_
      obtain ⟨_, e12, h⟩ := Option.bind_eq_some_iff.mp h
      obtain ⟨fse12, e12⟩ := kO_ok e12
      obtain ⟨r10, e11, h⟩ := Option.bind_eq_some_iff.mp h
      replace h := xU_ok h
      obtain ⟨P9, rfl, h⟩ := h
      refine x_callV (c_X5_addStep hl e11) dX3_readFact_31 cw_X5_addStep wl_X3_62 wi_X5_addStep wse_X5_addStep rfl e12 (by decide) rfl (by omega) (by decide) rfl (Nat.le_of_ble_eq_true rfl) rfl (fun v9 P9 hq9 => ?_) (fun i9 P9 hq9 => by cases hq9)
      cases hq9
      refine x_aload_nr dX3_readFact_34 rfl ?_
      obtain ⟨_, e16, h⟩ := Option.bind_eq_some_iff.mp h
      obtain ⟨fse16, e16⟩ := kO_ok e16
      obtain ⟨r14, e15, h⟩ := Option.bind_eq_some_iff.mp h
      replace h := xU_ok h
      obtain ⟨P13, rfl, h⟩ := h
      refine x_callV (c_X3_next hl e15) dX3_readFact_35 cw_X3_next wl_X3_35 wi_X3_next wse_X3_next rfl e16 (by decide) rfl (by omega) (by decide) rfl (Nat.le_of_ble_eq_true rfl) rfl (fun v9 P9 hq9 => ?_) (fun i9 P9 hq9 => by cases hq9)
      cases hq9
      refine x_iconst 1 dX3_readFact_38 (by decide) ?_
      cases h
      exact x_iret .boolean rfl rfl dX3_readFact_39 hQ
set_option maxHeartbeats 2000000 in
set_option maxRecDepth 20000 in
theorem t_X3_readFact_40 {G : xG} {l : Launch} (hl : l.stackTraces = false) {n : Nat} {rec : Nat → List Value → xH → xO} (hrec : ∀ pc env P z, rec pc env P = some z → ∀ L st, lay_X3_readFact pc env = some (L, st) → ∀ Q : xR → xH → Prop, Q z.1 z.2 → Wp G l 9 mX3_readFact pc L st P Q) {a0} {P : xH} {z : xR × xH} (h : b_X3_readFact_40 n rec a0 P = some z) {Q : xR → xH → Prop} (hQ : Q z.1 z.2) : Wp G l 9 mX3_readFact 40 [some (.ref a0), none, none] [] P Q := by
  unfold b_X3_readFact_40 at h
  refine x_aload_nr dX3_readFact_40 rfl ?_
  obtain ⟨v1, e2, h⟩ := Option.bind_eq_some_iff.mp h
  refine k_rI e2 dX3_readFact_41 f_X3_38 ?_
  refine x_bipush 15 dX3_readFact_44 (by decide) ?_
  refine x_icmp_lt 58 dX3_readFact_46 (by decide) (fun q15 => ?_) (fun q15 => ?_)
  · rw [if_pos q15] at h
    exact Wp.mask [true, false, false] (hrec 58 _ _ _ h _ _ rfl _ hQ)
  · rw [if_neg q15] at h
    refine x_aload_nr dX3_readFact_49 rfl ?_
    obtain ⟨v3, e4, h⟩ := Option.bind_eq_some_iff.mp h
    refine k_rI e4 dX3_readFact_50 f_X3_38 ?_
    refine x_bipush 20 dX3_readFact_53 (by decide) ?_
    refine x_icmp_lt 63 dX3_readFact_55 (by decide) (fun q14 => ?_) (fun q14 => ?_)
    · rw [if_pos q14] at h
      refine x_aload_nr dX3_readFact_63 rfl ?_
      obtain ⟨v5, e6, h⟩ := Option.bind_eq_some_iff.mp h
      refine k_rI e6 dX3_readFact_64 f_X3_38 ?_
      refine x_bipush 15 dX3_readFact_67 (by decide) ?_
      refine x_isub dX3_readFact_69 ?_
      refine x_istore_n dX3_readFact_70 (Nat.le_of_ble_eq_true rfl) ?_
      refine x_aload_nr dX3_readFact_71 rfl ?_
      obtain ⟨_, e10, h⟩ := Option.bind_eq_some_iff.mp h
      obtain ⟨fse10, e10⟩ := kO_ok e10
      obtain ⟨r8, e9, h⟩ := Option.bind_eq_some_iff.mp h
      replace h := xU_ok h
      obtain ⟨P7, rfl, h⟩ := h
      refine x_callV (c_X3_next hl e9) dX3_readFact_72 cw_X3_next wl_X3_35 wi_X3_next wse_X3_next rfl e10 (by decide) rfl (by omega) (by decide) rfl (Nat.le_of_ble_eq_true rfl) rfl (fun v9 P9 hq9 => ?_) (fun i9 P9 hq9 => by cases hq9)
      cases hq9
      refine x_aload_nr dX3_readFact_75 rfl ?_
      obtain ⟨v11, e12, h⟩ := Option.bind_eq_some_iff.mp h
      refine k_rI e12 dX3_readFact_76 f_X3_38 ?_
      refine x_sipush 160 dX3_readFact_79 (by decide) ?_
      refine x_icmp_ne 89 dX3_readFact_82 (by decide) (fun q13 => ?_) (fun q13 => ?_)
      · rw [if_pos q13] at h
        refine x_iconst 0 dX3_readFact_89 (by decide) ?_
        exact Wp.mask [true, true, false] (hrec 90 _ _ _ h _ _ rfl _ hQ)
      · rw [if_neg (fun z9 => z9 q13)] at h
        refine x_iconst 1 dX3_readFact_85 (by decide) ?_
        refine x_goto 90 dX3_readFact_86 (by decide) ?_
        exact Wp.mask [true, true, false] (hrec 90 _ _ _ h _ _ rfl _ hQ)
    · rw [if_neg q14] at h
      exact Wp.mask [true, false, false] (hrec 58 _ _ _ h _ _ rfl _ hQ)
set_option maxHeartbeats 2000000 in
set_option maxRecDepth 20000 in
theorem t_X3_readFact_58 {G : xG} {l : Launch} (hl : l.stackTraces = false) {n : Nat} {rec : Nat → List Value → xH → xO} (hrec : ∀ pc env P z, rec pc env P = some z → ∀ L st, lay_X3_readFact pc env = some (L, st) → ∀ Q : xR → xH → Prop, Q z.1 z.2 → Wp G l 9 mX3_readFact pc L st P Q) {a0} {P : xH} {z : xR × xH} (h : b_X3_readFact_58 n rec a0 P = some z) {Q : xR → xH → Prop} (hQ : Q z.1 z.2) : Wp G l 9 mX3_readFact 58 [some (.ref a0), none, none] [] P Q := by
  unfold b_X3_readFact_58 at h
  refine x_aload_nr dX3_readFact_58 rfl ?_
  obtain ⟨_, e5, h⟩ := Option.bind_eq_some_iff.mp h
  obtain ⟨fse5, e5⟩ := kO_ok e5
  obtain ⟨r2, e3, h⟩ := Option.bind_eq_some_iff.mp h
  replace h := xI_ok h
  obtain ⟨v4, P1, rfl, h⟩ := h
  refine x_callV (c_X3_fail hl e3) dX3_readFact_59 cw_X3_fail wl_X3_45 wi_X3_fail wse_X3_fail rfl e5 (by decide) rfl (by omega) (by decide) rfl (Nat.le_of_ble_eq_true rfl) rfl (fun v9 P9 hq9 => ?_) (fun i9 P9 hq9 => by cases hq9)
  cases hq9
  by_cases q6 : v4 = 0 ∨ v4 = 1
  · rw [if_pos q6] at h
    cases h
    exact x_iret .boolean rfl (by rcases q6 with z9 | z9 <;> rw [z9] <;> rfl) dX3_readFact_62 hQ
  · rw [if_neg q6] at h
    cases h
set_option maxHeartbeats 2000000 in
set_option maxRecDepth 20000 in
theorem t_X3_readFact_90 {G : xG} {l : Launch} (hl : l.stackTraces = false) {n : Nat} {rec : Nat → List Value → xH → xO} (hrec : ∀ pc env P z, rec pc env P = some z → ∀ L st, lay_X3_readFact pc env = some (L, st) → ∀ Q : xR → xH → Prop, Q z.1 z.2 → Wp G l 9 mX3_readFact pc L st P Q) {a0 a1 s0} {P : xH} {z : xR × xH} (h : b_X3_readFact_90 n rec a0 a1 s0 P = some z) {Q : xR → xH → Prop} (hQ : Q z.1 z.2) : Wp G l 9 mX3_readFact 90 [some (.ref a0), some (.int a1), none] [.int s0] P Q := by
  unfold b_X3_readFact_90 at h
  refine x_istore_n dX3_readFact_90 (Nat.le_of_ble_eq_true rfl) ?_
  refine x_iload_n dX3_readFact_91 rfl ?_
  refine x_if_ne 110 dX3_readFact_92 (by decide) (fun q10 => ?_) (fun q10 => ?_)
  · rw [if_pos q10] at h
    exact Wp.mask [true, true, true] (hrec 110 _ _ _ h _ _ rfl _ hQ)
  · rw [if_neg (fun z9 => z9 q10)] at h
    refine x_aload_nr dX3_readFact_95 rfl ?_
    obtain ⟨v1, e2, h⟩ := Option.bind_eq_some_iff.mp h
    refine k_rI e2 dX3_readFact_96 f_X3_38 ?_
    refine x_sipush 162 dX3_readFact_99 (by decide) ?_
    refine x_icmp_eq 110 dX3_readFact_102 (by decide) (fun q9 => ?_) (fun q9 => ?_)
    · rw [if_pos q9] at h
      exact Wp.mask [true, true, true] (hrec 110 _ _ _ h _ _ rfl _ hQ)
    · rw [if_neg q9] at h
      refine x_aload_nr dX3_readFact_105 rfl ?_
      obtain ⟨_, e7, h⟩ := Option.bind_eq_some_iff.mp h
      obtain ⟨fse7, e7⟩ := kO_ok e7
      obtain ⟨r4, e5, h⟩ := Option.bind_eq_some_iff.mp h
      replace h := xI_ok h
      obtain ⟨v6, P3, rfl, h⟩ := h
      refine x_callV (c_X3_fail hl e5) dX3_readFact_106 cw_X3_fail wl_X3_45 wi_X3_fail wse_X3_fail rfl e7 (by decide) rfl (by omega) (by decide) rfl (Nat.le_of_ble_eq_true rfl) rfl (fun v9 P9 hq9 => ?_) (fun i9 P9 hq9 => by cases hq9)
      cases hq9
      by_cases q8 : v6 = 0 ∨ v6 = 1
      · rw [if_pos q8] at h
        cases h
        exact x_iret .boolean rfl (by rcases q8 with z9 | z9 <;> rw [z9] <;> rfl) dX3_readFact_109 hQ
      · rw [if_neg q8] at h
        cases h
set_option maxHeartbeats 2000000 in
set_option maxRecDepth 20000 in
theorem t_X3_readFact_110 {G : xG} {l : Launch} (hl : l.stackTraces = false) {n : Nat} {rec : Nat → List Value → xH → xO} (hrec : ∀ pc env P z, rec pc env P = some z → ∀ L st, lay_X3_readFact pc env = some (L, st) → ∀ Q : xR → xH → Prop, Q z.1 z.2 → Wp G l 9 mX3_readFact pc L st P Q) {a0 a1 a2} {P : xH} {z : xR × xH} (h : b_X3_readFact_110 n rec a0 a1 a2 P = some z) {Q : xR → xH → Prop} (hQ : Q z.1 z.2) : Wp G l 9 mX3_readFact 110 [some (.ref a0), some (.int a1), some (.int a2)] [] P Q := by
  unfold b_X3_readFact_110 at h
  refine x_aload_nr dX3_readFact_110 rfl ?_
  obtain ⟨_, e4, h⟩ := Option.bind_eq_some_iff.mp h
  obtain ⟨fse4, e4⟩ := kO_ok e4
  obtain ⟨r2, e3, h⟩ := Option.bind_eq_some_iff.mp h
  replace h := xU_ok h
  obtain ⟨P1, rfl, h⟩ := h
  refine x_callV (c_X3_next hl e3) dX3_readFact_111 cw_X3_next wl_X3_35 wi_X3_next wse_X3_next rfl e4 (by decide) rfl (by omega) (by decide) rfl (Nat.le_of_ble_eq_true rfl) rfl (fun v9 P9 hq9 => ?_) (fun i9 P9 hq9 => by cases hq9)
  cases hq9
  refine x_aload_nr dX3_readFact_114 rfl ?_
  obtain ⟨v5, e6, h⟩ := Option.bind_eq_some_iff.mp h
  refine k_rI e6 dX3_readFact_115 f_X3_38 ?_
  refine x_bipush 20 dX3_readFact_118 (by decide) ?_
  refine x_icmp_ne 133 dX3_readFact_120 (by decide) (fun q13 => ?_) (fun q13 => ?_)
  · rw [if_pos q13] at h
    exact Wp.mask [true, true, true] (hrec 133 _ _ _ h _ _ rfl _ hQ)
  · rw [if_neg (fun z9 => z9 q13)] at h
    refine x_aload_nr dX3_readFact_123 rfl ?_
    obtain ⟨v7, e8, h⟩ := Option.bind_eq_some_iff.mp h
    refine k_rI e8 dX3_readFact_124 f_X3_48 ?_
    refine x_sipush 9999 dX3_readFact_127 (by decide) ?_
    refine x_icmp_le 138 dX3_readFact_130 (by decide) (fun q12 => ?_) (fun q12 => ?_)
    · rw [if_pos q12] at h
      refine x_aload_nr dX3_readFact_138 rfl ?_
      obtain ⟨v9, e10, h⟩ := Option.bind_eq_some_iff.mp h
      refine k_rA e10 dX3_readFact_139 f_X3_12 ?_
      refine x_iload_n dX3_readFact_142 rfl ?_
      refine x_if_eq 150 dX3_readFact_143 (by decide) (fun q11 => ?_) (fun q11 => ?_)
      · rw [if_pos q11] at h
        refine x_iconst 2 dX3_readFact_150 (by decide) ?_
        exact Wp.mask [true, true, true] (hrec 151 _ _ _ h _ _ rfl _ hQ)
      · rw [if_neg q11] at h
        refine x_iconst 1 dX3_readFact_146 (by decide) ?_
        refine x_goto 151 dX3_readFact_147 (by decide) ?_
        exact Wp.mask [true, true, true] (hrec 151 _ _ _ h _ _ rfl _ hQ)
    · rw [if_neg q12] at h
      exact Wp.mask [true, true, true] (hrec 133 _ _ _ h _ _ rfl _ hQ)
set_option maxHeartbeats 2000000 in
set_option maxRecDepth 20000 in
theorem t_X3_readFact_133 {G : xG} {l : Launch} (hl : l.stackTraces = false) {n : Nat} {rec : Nat → List Value → xH → xO} (hrec : ∀ pc env P z, rec pc env P = some z → ∀ L st, lay_X3_readFact pc env = some (L, st) → ∀ Q : xR → xH → Prop, Q z.1 z.2 → Wp G l 9 mX3_readFact pc L st P Q) {a0 a1 a2} {P : xH} {z : xR × xH} (h : b_X3_readFact_133 n rec a0 a1 a2 P = some z) {Q : xR → xH → Prop} (hQ : Q z.1 z.2) : Wp G l 9 mX3_readFact 133 [some (.ref a0), some (.int a1), some (.int a2)] [] P Q := by
  unfold b_X3_readFact_133 at h
  refine x_aload_nr dX3_readFact_133 rfl ?_
  obtain ⟨_, e5, h⟩ := Option.bind_eq_some_iff.mp h
  obtain ⟨fse5, e5⟩ := kO_ok e5
  obtain ⟨r2, e3, h⟩ := Option.bind_eq_some_iff.mp h
  replace h := xI_ok h
  obtain ⟨v4, P1, rfl, h⟩ := h
  refine x_callV (c_X3_fail hl e3) dX3_readFact_134 cw_X3_fail wl_X3_45 wi_X3_fail wse_X3_fail rfl e5 (by decide) rfl (by omega) (by decide) rfl (Nat.le_of_ble_eq_true rfl) rfl (fun v9 P9 hq9 => ?_) (fun i9 P9 hq9 => by cases hq9)
  cases hq9
  by_cases q6 : v4 = 0 ∨ v4 = 1
  · rw [if_pos q6] at h
    cases h
    exact x_iret .boolean rfl (by rcases q6 with z9 | z9 <;> rw [z9] <;> rfl) dX3_readFact_137 hQ
  · rw [if_neg q6] at h
    cases h
set_option maxHeartbeats 2000000 in
set_option maxRecDepth 20000 in
theorem t_X3_readFact_151 {G : xG} {l : Launch} (hl : l.stackTraces = false) {n : Nat} {rec : Nat → List Value → xH → xO} (hrec : ∀ pc env P z, rec pc env P = some z → ∀ L st, lay_X3_readFact pc env = some (L, st) → ∀ Q : xR → xH → Prop, Q z.1 z.2 → Wp G l 9 mX3_readFact pc L st P Q) {a0 a1 a2 s0 s1} {P : xH} {z : xR × xH} (h : b_X3_readFact_151 n rec a0 a1 a2 s0 s1 P = some z) {Q : xR → xH → Prop} (hQ : Q z.1 z.2) : Wp G l 9 mX3_readFact 151 [some (.ref a0), some (.int a1), some (.int a2)] [.int s1, .ref s0] P Q := by
  unfold b_X3_readFact_151 at h
  refine x_iload_n dX3_readFact_151 rfl ?_
  refine x_aload_nr dX3_readFact_152 rfl ?_
  obtain ⟨v1, e2, h⟩ := Option.bind_eq_some_iff.mp h
  refine k_rI e2 dX3_readFact_153 f_X3_48 ?_
  obtain ⟨_, e6, h⟩ := Option.bind_eq_some_iff.mp h
  obtain ⟨fse6, e6⟩ := kO_ok e6
  obtain ⟨r4, e5, h⟩ := Option.bind_eq_some_iff.mp h
  replace h := xU_ok h
  obtain ⟨P3, rfl, h⟩ := h
  refine x_callV (c_X5_addStep hl e5) dX3_readFact_156 cw_X5_addStep wl_X3_62 wi_X5_addStep wse_X5_addStep rfl e6 (by decide) rfl (by omega) (by decide) rfl (Nat.le_of_ble_eq_true rfl) rfl (fun v9 P9 hq9 => ?_) (fun i9 P9 hq9 => by cases hq9)
  cases hq9
  refine x_aload_nr dX3_readFact_159 rfl ?_
  obtain ⟨_, e10, h⟩ := Option.bind_eq_some_iff.mp h
  obtain ⟨fse10, e10⟩ := kO_ok e10
  obtain ⟨r8, e9, h⟩ := Option.bind_eq_some_iff.mp h
  replace h := xU_ok h
  obtain ⟨P7, rfl, h⟩ := h
  refine x_callV (c_X3_next hl e9) dX3_readFact_160 cw_X3_next wl_X3_35 wi_X3_next wse_X3_next rfl e10 (by decide) rfl (by omega) (by decide) rfl (Nat.le_of_ble_eq_true rfl) rfl (fun v9 P9 hq9 => ?_) (fun i9 P9 hq9 => by cases hq9)
  cases hq9
  refine x_iconst 1 dX3_readFact_163 (by decide) ?_
  cases h
  exact x_iret .boolean rfl rfl dX3_readFact_164 hQ
theorem s_X3_readFact {G : xG} {l : Launch} (hl : l.stackTraces = false) : ∀ n pc env P z, f_X3_readFact n pc env P = some z → ∀ L st, lay_X3_readFact pc env = some (L, st) → ∀ Q : xR → xH → Prop, Q z.1 z.2 → Wp G l 9 mX3_readFact pc L st P Q := by
  intro n
  induction n with
  | zero => intro pc env P z h; cases h
  | succ n ih =>
    intro pc env P z h L st hlay Q hQ
    unfold f_X3_readFact at h
    split at h
    · cases hlay
      exact t_X3_readFact_0 hl ih h hQ
    · cases hlay
      exact t_X3_readFact_40 hl ih h hQ
    · cases hlay
      exact t_X3_readFact_58 hl ih h hQ
    · cases hlay
      exact t_X3_readFact_90 hl ih h hQ
    · cases hlay
      exact t_X3_readFact_110 hl ih h hQ
    · cases hlay
      exact t_X3_readFact_133 hl ih h hQ
    · cases hlay
      exact t_X3_readFact_151 hl ih h hQ
    · cases h
theorem c_X3_readFact {G : xG} {l : Launch} (hl : l.stackTraces = false) {n : Nat} {as : List Value} {P : xH} {z : xR × xH} (h : f_X3_readFact n 0 as P = some z) : Ct G l 9 mX3_readFact as P (fun r P1 => (r, P1) = z) := by
  cases n with
  | zero => cases h
  | succ n =>
    unfold f_X3_readFact at h
    split at h
    · exact Ct.of hl (by decide +kernel) wc_X3_readFact (Nat.le_of_ble_eq_true rfl) (t_X3_readFact_0 hl (s_X3_readFact hl _) h rfl)
    all_goals first | (cases h; done) | (rename_i q9 _; exact absurd q9 (by decide)) | (rename_i q9; exact absurd q9 (by decide)) | contradiction
def mt_X3_readEither : Nat → xM
  | 0 => mX3_readEither
  | _ => mX3_readAtom
/-! QuakeNet$Reader.readEither(I)Z -/
def b_X3_readEither_0 (n : Nat) (cr : Nat → List Value → xH → xO) (rec : Nat → List Value → xH → xO) (a0 : Nat) (a1 : Int32) (P : xH) : xO :=
  (kO P a0 3).bind fun _ =>
  (cr 1 [.ref a0, .int a1] P).bind fun r2 => xI r2 fun v4 P1 =>
  rec 11 [.ref a0, .int a1, .int 0, .int v4, .int 0] P1
def b_X3_readEither_11 (n : Nat) (cr : Nat → List Value → xH → xO) (rec : Nat → List Value → xH → xO) (a0 : Nat) (a1 : Int32) (a2 : Int32) (a3 : Int32) (a4 : Int32) (P : xH) : xO :=
  (rI P a0 3 2).bind fun v1 =>
  if v1 ≤ a4 then
    rec 120 [.ref a0, .int a1, .int a2, .int a3, .int a4] P
  else
    if a3 = 0 then
      rec 120 [.ref a0, .int a1, .int a2, .int a3, .int a4] P
    else
      (rI P a0 3 5).bind fun v3 =>
      if v3 = 6 then
        rec 41 [.ref a0, .int a1, .int a2, .int a3, .int a4] P
      else
        (rI P a0 3 5).bind fun v5 =>
        if ¬ v5 = 5 then
          rec 120 [.ref a0, .int a1, .int a2, .int a3, .int a4] P
        else
          rec 41 [.ref a0, .int a1, .int a2, .int a3, .int a4] P
def b_X3_readEither_41 (n : Nat) (cr : Nat → List Value → xH → xO) (rec : Nat → List Value → xH → xO) (a0 : Nat) (a1 : Int32) (a2 : Int32) (a3 : Int32) (a4 : Int32) (P : xH) : xO :=
  (rI P a0 3 5).bind fun v1 =>
  if ¬ v1 = 6 then
    rec 55 [.ref a0, .int a1, .int a2, .int a3, .int a4, .int 0] P
  else
    rec 55 [.ref a0, .int a1, .int a2, .int a3, .int a4, .int 1] P
def b_X3_readEither_55 (n : Nat) (cr : Nat → List Value → xH → xO) (rec : Nat → List Value → xH → xO) (a0 : Nat) (a1 : Int32) (a2 : Int32) (a3 : Int32) (a4 : Int32) (s0 : Int32) (P : xH) : xO :=
  if ¬ s0 = 0 then
    rec 76 [.ref a0, .int a1, .int a2, .int a3, .int a4, .int s0] P
  else
    if a2 = 0 then
      rec 76 [.ref a0, .int a1, .int a2, .int a3, .int a4, .int s0] P
    else
      (rA P a0 3 0).bind fun v1 =>
      (kO P v1 5).bind fun _ =>
      (f_X5_addStep n 0 [.ref v1, .int 5, .int 0, .int 0] P).bind fun r4 => xU r4 fun P3 =>
      rec 76 [.ref a0, .int a1, .int a2, .int a3, .int a4, .int s0] P3
def b_X3_readEither_76 (n : Nat) (cr : Nat → List Value → xH → xO) (rec : Nat → List Value → xH → xO) (a0 : Nat) (a1 : Int32) (a2 : Int32) (a3 : Int32) (a4 : Int32) (a5 : Int32) (P : xH) : xO :=
  if ¬ a5 = 0 then
    rec 87 [.ref a0, .int a1, .int a2, .int a3, .int a4, .int a5, .int a2, .int 0] P
  else
    rec 87 [.ref a0, .int a1, .int a2, .int a3, .int a4, .int a5, .int a2, .int 1] P
def b_X3_readEither_87 (n : Nat) (cr : Nat → List Value → xH → xO) (rec : Nat → List Value → xH → xO) (a0 : Nat) (a1 : Int32) (a2 : Int32) (a3 : Int32) (a4 : Int32) (a5 : Int32) (s0 : Int32) (s1 : Int32) (P : xH) : xO :=
  (kO P a0 3).bind fun _ =>
  (f_X3_next n 0 [.ref a0] P).bind fun r2 => xU r2 fun P1 =>
  (kO P1 a0 3).bind fun _ =>
  (cr 1 [.ref a0, .int a1] P1).bind fun r6 => xI r6 fun v8 P5 =>
  if a5 = 0 then
    rec 11 [.ref a0, .int a1, .int ((s0 ||| s1)), .int v8, .int ((a4 + 1))] P5
  else
    (rA P5 a0 3 0).bind fun v10 =>
    (kO P5 v10 5).bind fun _ =>
    (f_X5_addStep n 0 [.ref v10, .int 4, .int 0, .int 0] P5).bind fun r13 => xU r13 fun P12 =>
    rec 11 [.ref a0, .int a1, .int ((s0 ||| s1)), .int v8, .int ((a4 + 1))] P12
def b_X3_readEither_120 (n : Nat) (cr : Nat → List Value → xH → xO) (rec : Nat → List Value → xH → xO) (a0 : Nat) (a1 : Int32) (a2 : Int32) (a3 : Int32) (a4 : Int32) (P : xH) : xO :=
  if a2 = 0 then
    if a3 = 0 ∨ a3 = 1 then some (.inl (some (.int a3)), P) else none
  else
    (rA P a0 3 0).bind fun v2 =>
    (kO P v2 5).bind fun _ =>
    (f_X5_addStep n 0 [.ref v2, .int 5, .int 0, .int 0] P).bind fun r5 => xU r5 fun P4 =>
    if a3 = 0 ∨ a3 = 1 then some (.inl (some (.int a3)), P4) else none
def lay_X3_readEither : Nat → List Value → Option (xL × List Value)
  | 0, [a0, a1] => some ([some a0, some a1, none, none, none, none], [])
  | 11, [a0, a1, a2, a3, a4] => some ([some a0, some a1, some a2, some a3, some a4, none], [])
  | 41, [a0, a1, a2, a3, a4] => some ([some a0, some a1, some a2, some a3, some a4, none], [])
  | 55, [a0, a1, a2, a3, a4, s0] => some ([some a0, some a1, some a2, some a3, some a4, none], [s0])
  | 76, [a0, a1, a2, a3, a4, a5] => some ([some a0, some a1, some a2, some a3, some a4, some a5], [])
  | 87, [a0, a1, a2, a3, a4, a5, s0, s1] => some ([some a0, some a1, some a2, some a3, some a4, some a5], [s1, s0])
  | 120, [a0, a1, a2, a3, a4] => some ([some a0, some a1, some a2, some a3, some a4, none], [])
  | _, _ => none
def g_X3_readEither (cr : Nat → List Value → xH → xO) : Nat → Nat → List Value → xH → xO
  | 0 => fun _ _ _ => none
  | n + 1 => fun pc env P => match pc, env with
    | 0, [.ref a0, .int a1] => b_X3_readEither_0 n cr (g_X3_readEither cr n) a0 a1 P
    | 11, [.ref a0, .int a1, .int a2, .int a3, .int a4] => b_X3_readEither_11 n cr (g_X3_readEither cr n) a0 a1 a2 a3 a4 P
    | 41, [.ref a0, .int a1, .int a2, .int a3, .int a4] => b_X3_readEither_41 n cr (g_X3_readEither cr n) a0 a1 a2 a3 a4 P
    | 55, [.ref a0, .int a1, .int a2, .int a3, .int a4, .int s0] => b_X3_readEither_55 n cr (g_X3_readEither cr n) a0 a1 a2 a3 a4 s0 P
    | 76, [.ref a0, .int a1, .int a2, .int a3, .int a4, .int a5] => b_X3_readEither_76 n cr (g_X3_readEither cr n) a0 a1 a2 a3 a4 a5 P
    | 87, [.ref a0, .int a1, .int a2, .int a3, .int a4, .int a5, .int s0, .int s1] => b_X3_readEither_87 n cr (g_X3_readEither cr n) a0 a1 a2 a3 a4 a5 s0 s1 P
    | 120, [.ref a0, .int a1, .int a2, .int a3, .int a4] => b_X3_readEither_120 n cr (g_X3_readEither cr n) a0 a1 a2 a3 a4 P
    | _, _ => none
set_option maxHeartbeats 2000000 in
set_option maxRecDepth 20000 in
theorem t_X3_readEither_0 {G : xG} {l : Launch} (hl : l.stackTraces = false) {dp : Nat} {cr : Nat → List Value → xH → xO} (hself : ∀ t as P z, cr t as P = some z → Ct G l (dp + 10 - 1) (mt_X3_readEither t) as P (fun r P1 => (r, P1) = z)) {n : Nat} {rec : Nat → List Value → xH → xO} (hrec : ∀ pc env P z, rec pc env P = some z → ∀ L st, lay_X3_readEither pc env = some (L, st) → ∀ Q : xR → xH → Prop, Q z.1 z.2 → Wp G l (dp + 10) mX3_readEither pc L st P Q) {a0 a1} {P : xH} {z : xR × xH} (h : b_X3_readEither_0 n cr rec a0 a1 P = some z) {Q : xR → xH → Prop} (hQ : Q z.1 z.2) : Wp G l (dp + 10) mX3_readEither 0 [some (.ref a0), some (.int a1), none, none, none, none] [] P Q := by
  unfold b_X3_readEither_0 at h
  refine x_iconst 0 dX3_readEither_0 (by decide) ?_
  refine x_istore_n dX3_readEither_1 (Nat.le_of_ble_eq_true rfl) ?_
  refine x_aload_nr dX3_readEither_2 rfl ?_
  refine x_iload_n dX3_readEither_3 rfl ?_
  obtain ⟨_, e5, h⟩ := Option.bind_eq_some_iff.mp h
  obtain ⟨fse5, e5⟩ := kO_ok e5
  obtain ⟨r2, e3, h⟩ := Option.bind_eq_some_iff.mp h
  replace h := xI_ok h
  obtain ⟨v4, P1, rfl, h⟩ := h
  refine x_callV (hself 1 _ _ _ e3) dX3_readEither_4 cw_X3_readAtom wl_X3_59 wi_X3_readAtom wse_X3_readAtom rfl e5 (by decide) rfl (by omega) (by decide) rfl (Nat.le_of_ble_eq_true rfl) rfl (fun v9 P9 hq9 => ?_) (fun i9 P9 hq9 => by cases hq9)
  cases hq9
  refine x_istore_n dX3_readEither_7 (Nat.le_of_ble_eq_true rfl) ?_
  refine x_iconst 0 dX3_readEither_8 (by decide) ?_
  refine x_istore dX3_readEither_9 (Nat.le_of_ble_eq_true rfl) ?_
  exact Wp.mask [true, true, true, true, true, false] (hrec 11 _ _ _ h _ _ rfl _ hQ)
set_option maxHeartbeats 2000000 in
set_option maxRecDepth 20000 in
theorem t_X3_readEither_11 {G : xG} {l : Launch} (hl : l.stackTraces = false) {dp : Nat} {cr : Nat → List Value → xH → xO} (hself : ∀ t as P z, cr t as P = some z → Ct G l (dp + 10 - 1) (mt_X3_readEither t) as P (fun r P1 => (r, P1) = z)) {n : Nat} {rec : Nat → List Value → xH → xO} (hrec : ∀ pc env P z, rec pc env P = some z → ∀ L st, lay_X3_readEither pc env = some (L, st) → ∀ Q : xR → xH → Prop, Q z.1 z.2 → Wp G l (dp + 10) mX3_readEither pc L st P Q) {a0 a1 a2 a3 a4} {P : xH} {z : xR × xH} (h : b_X3_readEither_11 n cr rec a0 a1 a2 a3 a4 P = some z) {Q : xR → xH → Prop} (hQ : Q z.1 z.2) : Wp G l (dp + 10) mX3_readEither 11 [some (.ref a0), some (.int a1), some (.int a2), some (.int a3), some (.int a4), none] [] P Q := by
  unfold b_X3_readEither_11 at h
  refine x_iload dX3_readEither_11 rfl ?_
  refine x_aload_nr dX3_readEither_13 rfl ?_
  obtain ⟨v1, e2, h⟩ := Option.bind_eq_some_iff.mp h
  refine k_rI e2 dX3_readEither_14 f_X3_26 ?_
  refine x_icmp_ge 120 dX3_readEither_17 (by decide) (fun q10 => ?_) (fun q10 => ?_)
  · rw [if_pos q10] at h
    exact Wp.mask [true, true, true, true, true, false] (hrec 120 _ _ _ h _ _ rfl _ hQ)
  · rw [if_neg q10] at h
    refine x_iload_n dX3_readEither_20 rfl ?_
    refine x_if_eq 120 dX3_readEither_21 (by decide) (fun q9 => ?_) (fun q9 => ?_)
    · rw [if_pos q9] at h
      exact Wp.mask [true, true, true, true, true, false] (hrec 120 _ _ _ h _ _ rfl _ hQ)
    · rw [if_neg q9] at h
      refine x_aload_nr dX3_readEither_24 rfl ?_
      obtain ⟨v3, e4, h⟩ := Option.bind_eq_some_iff.mp h
      refine k_rI e4 dX3_readEither_25 f_X3_38 ?_
      refine x_bipush 6 dX3_readEither_28 (by decide) ?_
      refine x_icmp_eq 41 dX3_readEither_30 (by decide) (fun q8 => ?_) (fun q8 => ?_)
      · rw [if_pos q8] at h
        exact Wp.mask [true, true, true, true, true, false] (hrec 41 _ _ _ h _ _ rfl _ hQ)
      · rw [if_neg q8] at h
        refine x_aload_nr dX3_readEither_33 rfl ?_
        obtain ⟨v5, e6, h⟩ := Option.bind_eq_some_iff.mp h
        refine k_rI e6 dX3_readEither_34 f_X3_38 ?_
        refine x_iconst 5 dX3_readEither_37 (by decide) ?_
        refine x_icmp_ne 120 dX3_readEither_38 (by decide) (fun q7 => ?_) (fun q7 => ?_)
        · rw [if_pos q7] at h
          exact Wp.mask [true, true, true, true, true, false] (hrec 120 _ _ _ h _ _ rfl _ hQ)
        · rw [if_neg (fun z9 => z9 q7)] at h
          exact Wp.mask [true, true, true, true, true, false] (hrec 41 _ _ _ h _ _ rfl _ hQ)
set_option maxHeartbeats 2000000 in
set_option maxRecDepth 20000 in
theorem t_X3_readEither_41 {G : xG} {l : Launch} (hl : l.stackTraces = false) {dp : Nat} {cr : Nat → List Value → xH → xO} (hself : ∀ t as P z, cr t as P = some z → Ct G l (dp + 10 - 1) (mt_X3_readEither t) as P (fun r P1 => (r, P1) = z)) {n : Nat} {rec : Nat → List Value → xH → xO} (hrec : ∀ pc env P z, rec pc env P = some z → ∀ L st, lay_X3_readEither pc env = some (L, st) → ∀ Q : xR → xH → Prop, Q z.1 z.2 → Wp G l (dp + 10) mX3_readEither pc L st P Q) {a0 a1 a2 a3 a4} {P : xH} {z : xR × xH} (h : b_X3_readEither_41 n cr rec a0 a1 a2 a3 a4 P = some z) {Q : xR → xH → Prop} (hQ : Q z.1 z.2) : Wp G l (dp + 10) mX3_readEither 41 [some (.ref a0), some (.int a1), some (.int a2), some (.int a3), some (.int a4), none] [] P Q := by
  unfold b_X3_readEither_41 at h
  refine x_aload_nr dX3_readEither_41 rfl ?_
  obtain ⟨v1, e2, h⟩ := Option.bind_eq_some_iff.mp h
  refine k_rI e2 dX3_readEither_42 f_X3_38 ?_
  refine x_bipush 6 dX3_readEither_45 (by decide) ?_
  refine x_icmp_ne 54 dX3_readEither_47 (by decide) (fun q3 => ?_) (fun q3 => ?_)
  · rw [if_pos q3] at h
    refine x_iconst 0 dX3_readEither_54 (by decide) ?_
    exact Wp.mask [true, true, true, true, true, false] (hrec 55 _ _ _ h _ _ rfl _ hQ)
  · rw [if_neg (fun z9 => z9 q3)] at h
    refine x_iconst 1 dX3_readEither_50 (by decide) ?_
    refine x_goto 55 dX3_readEither_51 (by decide) ?_
    exact Wp.mask [true, true, true, true, true, false] (hrec 55 _ _ _ h _ _ rfl _ hQ)
set_option maxHeartbeats 2000000 in
set_option maxRecDepth 20000 in
theorem t_X3_readEither_55 {G : xG} {l : Launch} (hl : l.stackTraces = false) {dp : Nat} {cr : Nat → List Value → xH → xO} (hself : ∀ t as P z, cr t as P = some z → Ct G l (dp + 10 - 1) (mt_X3_readEither t) as P (fun r P1 => (r, P1) = z)) {n : Nat} {rec : Nat → List Value → xH → xO} (hrec : ∀ pc env P z, rec pc env P = some z → ∀ L st, lay_X3_readEither pc env = some (L, st) → ∀ Q : xR → xH → Prop, Q z.1 z.2 → Wp G l (dp + 10) mX3_readEither pc L st P Q) {a0 a1 a2 a3 a4 s0} {P : xH} {z : xR × xH} (h : b_X3_readEither_55 n cr rec a0 a1 a2 a3 a4 s0 P = some z) {Q : xR → xH → Prop} (hQ : Q z.1 z.2) : Wp G l (dp + 10) mX3_readEither 55 [some (.ref a0), some (.int a1), some (.int a2), some (.int a3), some (.int a4), none] [.int s0] P Q := by
  unfold b_X3_readEither_55 at h
  refine x_istore dX3_readEither_55 (Nat.le_of_ble_eq_true rfl) ?_
  refine x_iload dX3_readEither_57 rfl ?_
  refine x_if_ne 76 dX3_readEither_59 (by decide) (fun q8 => ?_) (fun q8 => ?_)
  · rw [if_pos q8] at h
    exact Wp.mask [true, true, true, true, true, true] (hrec 76 _ _ _ h _ _ rfl _ hQ)
  · rw [if_neg (fun z9 => z9 q8)] at h
    refine x_iload_n dX3_readEither_62 rfl ?_
    refine x_if_eq 76 dX3_readEither_63 (by decide) (fun q7 => ?_) (fun q7 => ?_)
    · rw [if_pos q7] at h
      exact Wp.mask [true, true, true, true, true, true] (hrec 76 _ _ _ h _ _ rfl _ hQ)
    · rw [if_neg q7] at h
      refine x_aload_nr dX3_readEither_66 rfl ?_
      obtain ⟨v1, e2, h⟩ := Option.bind_eq_some_iff.mp h
      refine k_rA e2 dX3_readEither_67 f_X3_12 ?_
      refine x_iconst 5 dX3_readEither_70 (by decide) ?_
      refine x_iconst 0 dX3_readEither_71 (by decide) ?_
      refine x_iconst 0 dX3_readEither_72 (by decide) ?_
      obtain ⟨_, e6, h⟩ := Option.bind_eq_some_iff.mp h
      obtain ⟨fse6, e6⟩ := kO_ok e6
      obtain ⟨r4, e5, h⟩ := Option.bind_eq_some_iff.mp h
      replace h := xU_ok h
      obtain ⟨P3, rfl, h⟩ := h
      refine x_callV (c_X5_addStep hl e5) dX3_readEither_73 cw_X5_addStep wl_X3_62 wi_X5_addStep wse_X5_addStep rfl e6 (by decide) rfl (by omega) (by decide) rfl (Nat.le_of_ble_eq_true rfl) rfl (fun v9 P9 hq9 => ?_) (fun i9 P9 hq9 => by cases hq9)
      cases hq9
      exact Wp.mask [true, true, true, true, true, true] (hrec 76 _ _ _ h _ _ rfl _ hQ)
set_option maxHeartbeats 2000000 in
set_option maxRecDepth 20000 in
theorem t_X3_readEither_76 {G : xG} {l : Launch} (hl : l.stackTraces = false) {dp : Nat} {cr : Nat → List Value → xH → xO} (hself : ∀ t as P z, cr t as P = some z → Ct G l (dp + 10 - 1) (mt_X3_readEither t) as P (fun r P1 => (r, P1) = z)) {n : Nat} {rec : Nat → List Value → xH → xO} (hrec : ∀ pc env P z, rec pc env P = some z → ∀ L st, lay_X3_readEither pc env = some (L, st) → ∀ Q : xR → xH → Prop, Q z.1 z.2 → Wp G l (dp + 10) mX3_readEither pc L st P Q) {a0 a1 a2 a3 a4 a5} {P : xH} {z : xR × xH} (h : b_X3_readEither_76 n cr rec a0 a1 a2 a3 a4 a5 P = some z) {Q : xR → xH → Prop} (hQ : Q z.1 z.2) : Wp G l (dp + 10) mX3_readEither 76 [some (.ref a0), some (.int a1), some (.int a2), some (.int a3), some (.int a4), some (.int a5)] [] P Q := by
  unfold b_X3_readEither_76 at h
  refine x_iload_n dX3_readEither_76 rfl ?_
  refine x_iload dX3_readEither_77 rfl ?_
  refine x_if_ne 86 dX3_readEither_79 (by decide) (fun q1 => ?_) (fun q1 => ?_)
  · rw [if_pos q1] at h
    refine x_iconst 0 dX3_readEither_86 (by decide) ?_
    exact Wp.mask [true, true, true, true, true, true] (hrec 87 _ _ _ h _ _ rfl _ hQ)
  · rw [if_neg (fun z9 => z9 q1)] at h
    refine x_iconst 1 dX3_readEither_82 (by decide) ?_
    refine x_goto 87 dX3_readEither_83 (by decide) ?_
    exact Wp.mask [true, true, true, true, true, true] (hrec 87 _ _ _ h _ _ rfl _ hQ)
set_option maxHeartbeats 2000000 in
set_option maxRecDepth 20000 in
theorem t_X3_readEither_87 {G : xG} {l : Launch} (hl : l.stackTraces = false) {dp : Nat} {cr : Nat → List Value → xH → xO} (hself : ∀ t as P z, cr t as P = some z → Ct G l (dp + 10 - 1) (mt_X3_readEither t) as P (fun r P1 => (r, P1) = z)) {n : Nat} {rec : Nat → List Value → xH → xO} (hrec : ∀ pc env P z, rec pc env P = some z → ∀ L st, lay_X3_readEither pc env = some (L, st) → ∀ Q : xR → xH → Prop, Q z.1 z.2 → Wp G l (dp + 10) mX3_readEither pc L st P Q) {a0 a1 a2 a3 a4 a5 s0 s1} {P : xH} {z : xR × xH} (h : b_X3_readEither_87 n cr rec a0 a1 a2 a3 a4 a5 s0 s1 P = some z) {Q : xR → xH → Prop} (hQ : Q z.1 z.2) : Wp G l (dp + 10) mX3_readEither 87 [some (.ref a0), some (.int a1), some (.int a2), some (.int a3), some (.int a4), some (.int a5)] [.int s1, .int s0] P Q := by
  unfold b_X3_readEither_87 at h
  refine x_ior dX3_readEither_87 ?_
  refine x_istore_n dX3_readEither_88 (Nat.le_of_ble_eq_true rfl) ?_
  refine x_aload_nr dX3_readEither_89 rfl ?_
  obtain ⟨_, e4, h⟩ := Option.bind_eq_some_iff.mp h
  obtain ⟨fse4, e4⟩ := kO_ok e4
  obtain ⟨r2, e3, h⟩ := Option.bind_eq_some_iff.mp h
  replace h := xU_ok h
  obtain ⟨P1, rfl, h⟩ := h
  refine x_callV (c_X3_next hl e3) dX3_readEither_90 cw_X3_next wl_X3_35 wi_X3_next wse_X3_next rfl e4 (by decide) rfl (by omega) (by decide) rfl (Nat.le_of_ble_eq_true rfl) rfl (fun v9 P9 hq9 => ?_) (fun i9 P9 hq9 => by cases hq9)
  cases hq9
  refine x_aload_nr dX3_readEither_93 rfl ?_
  refine x_iload_n dX3_readEither_94 rfl ?_
  obtain ⟨_, e9, h⟩ := Option.bind_eq_some_iff.mp h
  obtain ⟨fse9, e9⟩ := kO_ok e9
  obtain ⟨r6, e7, h⟩ := Option.bind_eq_some_iff.mp h
  replace h := xI_ok h
  obtain ⟨v8, P5, rfl, h⟩ := h
  refine x_callV (hself 1 _ _ _ e7) dX3_readEither_95 cw_X3_readAtom wl_X3_59 wi_X3_readAtom wse_X3_readAtom rfl e9 (by decide) rfl (by omega) (by decide) rfl (Nat.le_of_ble_eq_true rfl) rfl (fun v9 P9 hq9 => ?_) (fun i9 P9 hq9 => by cases hq9)
  cases hq9
  refine x_istore_n dX3_readEither_98 (Nat.le_of_ble_eq_true rfl) ?_
  refine x_iload dX3_readEither_99 rfl ?_
  refine x_if_eq 114 dX3_readEither_101 (by decide) (fun q16 => ?_) (fun q16 => ?_)
  · rw [if_pos q16] at h
    refine x_iinc (a4 + 1) dX3_readEither_114 rfl (by rfl) ?_
    refine x_goto 11 dX3_readEither_117 (by decide) ?_
    exact Wp.mask [true, true, true, true, true, false] (hrec 11 _ _ _ h _ _ rfl _ hQ)
  · rw [if_neg q16] at h
    refine x_aload_nr dX3_readEither_104 rfl ?_
    obtain ⟨v10, e11, h⟩ := Option.bind_eq_some_iff.mp h
    refine k_rA e11 dX3_readEither_105 f_X3_12 ?_
    refine x_iconst 4 dX3_readEither_108 (by decide) ?_
    refine x_iconst 0 dX3_readEither_109 (by decide) ?_
    refine x_iconst 0 dX3_readEither_110 (by decide) ?_
    obtain ⟨_, e15, h⟩ := Option.bind_eq_some_iff.mp h
    obtain ⟨fse15, e15⟩ := kO_ok e15
    obtain ⟨r13, e14, h⟩ := Option.bind_eq_some_iff.mp h
    replace h := xU_ok h
    obtain ⟨P12, rfl, h⟩ := h
    refine x_callV (c_X5_addStep hl e14) dX3_readEither_111 cw_X5_addStep wl_X3_62 wi_X5_addStep wse_X5_addStep rfl e15 (by decide) rfl (by omega) (by decide) rfl (Nat.le_of_ble_eq_true rfl) rfl (fun v9 P9 hq9 => ?_) (fun i9 P9 hq9 => by cases hq9)
    cases hq9
    refine x_iinc (a4 + 1) dX3_readEither_114 rfl (by rfl) ?_
    refine x_goto 11 dX3_readEither_117 (by decide) ?_
    exact Wp.mask [true, true, true, true, true, false] (hrec 11 _ _ _ h _ _ rfl _ hQ)
set_option maxHeartbeats 2000000 in
set_option maxRecDepth 20000 in
theorem t_X3_readEither_120 {G : xG} {l : Launch} (hl : l.stackTraces = false) {dp : Nat} {cr : Nat → List Value → xH → xO} (hself : ∀ t as P z, cr t as P = some z → Ct G l (dp + 10 - 1) (mt_X3_readEither t) as P (fun r P1 => (r, P1) = z)) {n : Nat} {rec : Nat → List Value → xH → xO} (hrec : ∀ pc env P z, rec pc env P = some z → ∀ L st, lay_X3_readEither pc env = some (L, st) → ∀ Q : xR → xH → Prop, Q z.1 z.2 → Wp G l (dp + 10) mX3_readEither pc L st P Q) {a0 a1 a2 a3 a4} {P : xH} {z : xR × xH} (h : b_X3_readEither_120 n cr rec a0 a1 a2 a3 a4 P = some z) {Q : xR → xH → Prop} (hQ : Q z.1 z.2) : Wp G l (dp + 10) mX3_readEither 120 [some (.ref a0), some (.int a1), some (.int a2), some (.int a3), some (.int a4), none] [] P Q := by
  unfold b_X3_readEither_120 at h
  refine x_iload_n dX3_readEither_120 rfl ?_
  refine x_if_eq 134 dX3_readEither_121 (by decide) (fun q9 => ?_) (fun q9 => ?_)
  · rw [if_pos q9] at h
    refine x_iload_n dX3_readEither_134 rfl ?_
    by_cases q1 : a3 = 0 ∨ a3 = 1
    · rw [if_pos q1] at h
      cases h
      exact x_iret .boolean rfl (by rcases q1 with z9 | z9 <;> rw [z9] <;> rfl) dX3_readEither_135 hQ
    · rw [if_neg q1] at h
      cases h
  · rw [if_neg q9] at h
    refine x_aload_nr dX3_readEither_124 rfl ?_
    obtain ⟨v2, e3, h⟩ := Option.bind_eq_some_iff.mp h
    refine k_rA e3 dX3_readEither_125 f_X3_12 ?_
    refine x_iconst 5 dX3_readEither_128 (by decide) ?_
    refine x_iconst 0 dX3_readEither_129 (by decide) ?_
    refine x_iconst 0 dX3_readEither_130 (by decide) ?_
    obtain ⟨_, e7, h⟩ := Option.bind_eq_some_iff.mp h
    obtain ⟨fse7, e7⟩ := kO_ok e7
    obtain ⟨r5, e6, h⟩ := Option.bind_eq_some_iff.mp h
    replace h := xU_ok h
    obtain ⟨P4, rfl, h⟩ := h
    refine x_callV (c_X5_addStep hl e6) dX3_readEither_131 cw_X5_addStep wl_X3_62 wi_X5_addStep wse_X5_addStep rfl e7 (by decide) rfl (by omega) (by decide) rfl (Nat.le_of_ble_eq_true rfl) rfl (fun v9 P9 hq9 => ?_) (fun i9 P9 hq9 => by cases hq9)
    cases hq9
    refine x_iload_n dX3_readEither_134 rfl ?_
    by_cases q8 : a3 = 0 ∨ a3 = 1
    · rw [if_pos q8] at h
      cases h
      exact x_iret .boolean rfl (by rcases q8 with z9 | z9 <;> rw [z9] <;> rfl) dX3_readEither_135 hQ
    · rw [if_neg q8] at h
      cases h
theorem s_X3_readEither {G : xG} {l : Launch} (hl : l.stackTraces = false) {dp : Nat} {cr : Nat → List Value → xH → xO} (hself : ∀ t as P z, cr t as P = some z → Ct G l (dp + 10 - 1) (mt_X3_readEither t) as P (fun r P1 => (r, P1) = z)) : ∀ n pc env P z, g_X3_readEither cr n pc env P = some z → ∀ L st, lay_X3_readEither pc env = some (L, st) → ∀ Q : xR → xH → Prop, Q z.1 z.2 → Wp G l (dp + 10) mX3_readEither pc L st P Q := by
  intro n
  induction n with
  | zero => intro pc env P z h; cases h
  | succ n ih =>
    intro pc env P z h L st hlay Q hQ
    unfold g_X3_readEither at h
    split at h
    · cases hlay
      exact t_X3_readEither_0 hl hself ih h hQ
    · cases hlay
      exact t_X3_readEither_11 hl hself ih h hQ
    · cases hlay
      exact t_X3_readEither_41 hl hself ih h hQ
    · cases hlay
      exact t_X3_readEither_55 hl hself ih h hQ
    · cases hlay
      exact t_X3_readEither_76 hl hself ih h hQ
    · cases hlay
      exact t_X3_readEither_87 hl hself ih h hQ
    · cases hlay
      exact t_X3_readEither_120 hl hself ih h hQ
    · cases h
theorem cg_X3_readEither {G : xG} {l : Launch} (hl : l.stackTraces = false) {dp : Nat} {cr : Nat → List Value → xH → xO} (hself : ∀ t as P z, cr t as P = some z → Ct G l (dp + 10 - 1) (mt_X3_readEither t) as P (fun r P1 => (r, P1) = z)) {n : Nat} {as : List Value} {P : xH} {z : xR × xH} (h : g_X3_readEither cr n 0 as P = some z) : Ct G l (dp + 10) mX3_readEither as P (fun r P1 => (r, P1) = z) := by
  cases n with
  | zero => cases h
  | succ n =>
    unfold g_X3_readEither at h
    split at h
    · exact Ct.of hl (by decide +kernel) wc_X3_readEither (Nat.le_of_ble_eq_true rfl) (t_X3_readEither_0 hl hself (s_X3_readEither hl hself _) h rfl)
    all_goals first | (cases h; done) | (rename_i q9 _; exact absurd q9 (by decide)) | (rename_i q9; exact absurd q9 (by decide)) | contradiction
/-! QuakeNet$Reader.readAtom(I)Z -/
def b_X3_readAtom_0 (n : Nat) (cr : Nat → List Value → xH → xO) (rec : Nat → List Value → xH → xO) (a0 : Nat) (a1 : Int32) (P : xH) : xO :=
  (rI P a0 3 5).bind fun v1 =>
  if ¬ v1 = 140 then
    rec 15 [.ref a0, .int a1, .int 0] P
  else
    rec 15 [.ref a0, .int a1, .int 1] P
def b_X3_readAtom_15 (n : Nat) (cr : Nat → List Value → xH → xO) (rec : Nat → List Value → xH → xO) (a0 : Nat) (a1 : Int32) (s0 : Int32) (P : xH) : xO :=
  if ¬ s0 = 0 then
    rec 34 [.ref a0, .int a1, .int s0] P
  else
    (rI P a0 3 5).bind fun v1 =>
    if v1 = 7 then
      rec 34 [.ref a0, .int a1, .int s0] P
    else
      (kO P a0 3).bind fun _ =>
      (f_X3_readFact n 0 [.ref a0] P).bind fun r4 => xI r4 fun v6 P3 =>
      if v6 = 0 ∨ v6 = 1 then some (.inl (some (.int v6)), P3) else none
def b_X3_readAtom_34 (n : Nat) (cr : Nat → List Value → xH → xO) (rec : Nat → List Value → xH → xO) (a0 : Nat) (a1 : Int32) (a2 : Int32) (P : xH) : xO :=
  if a1 < 6 then
    (kO P a0 3).bind fun _ =>
    (f_X3_next n 0 [.ref a0] P).bind fun r2 => xU r2 fun P1 =>
    if ¬ a2 = 0 then
      (kO P1 a0 3).bind fun _ =>
      (cr 0 [.ref a0, .int ((a1 + 1))] P1).bind fun r6 => xI r6 fun v8 P5 =>
      if ¬ v8 = 0 then
        (rI P5 a0 3 5).bind fun v10 =>
        if v10 = 141 then
          (kO P5 a0 3).bind fun _ =>
          (f_X3_next n 0 [.ref a0] P5).bind fun r13 => xU r13 fun P12 =>
          some (.inl (some (.int 1)), P12)
        else
          (kO P5 a0 3).bind fun _ =>
          (f_X3_fail n 0 [.ref a0] P5).bind fun r17 => xI r17 fun v19 P16 =>
          if v19 = 0 ∨ v19 = 1 then some (.inl (some (.int v19)), P16) else none
      else
        some (.inl (some (.int 0)), P5)
    else
      (kO P1 a0 3).bind fun _ =>
      (cr 1 [.ref a0, .int ((a1 + 1))] P1).bind fun r25 => xI r25 fun v27 P24 =>
      (rA P24 a0 3 0).bind fun v29 =>
      (kO P24 v29 5).bind fun _ =>
      (f_X5_addStep n 0 [.ref v29, .int 3, .int 0, .int 0] P24).bind fun r32 => xU r32 fun P31 =>
      if v27 = 0 ∨ v27 = 1 then some (.inl (some (.int v27)), P31) else none
  else
    (kO P a0 3).bind fun _ =>
    (f_X3_fail n 0 [.ref a0] P).bind fun r38 => xI r38 fun v40 P37 =>
    if v40 = 0 ∨ v40 = 1 then some (.inl (some (.int v40)), P37) else none
def lay_X3_readAtom : Nat → List Value → Option (xL × List Value)
  | 0, [a0, a1] => some ([some a0, some a1, none, none], [])
  | 15, [a0, a1, s0] => some ([some a0, some a1, none, none], [s0])
  | 34, [a0, a1, a2] => some ([some a0, some a1, some a2, none], [])
  | _, _ => none
def g_X3_readAtom (cr : Nat → List Value → xH → xO) : Nat → Nat → List Value → xH → xO
  | 0 => fun _ _ _ => none
  | n + 1 => fun pc env P => match pc, env with
    | 0, [.ref a0, .int a1] => b_X3_readAtom_0 n cr (g_X3_readAtom cr n) a0 a1 P
    | 15, [.ref a0, .int a1, .int s0] => b_X3_readAtom_15 n cr (g_X3_readAtom cr n) a0 a1 s0 P
    | 34, [.ref a0, .int a1, .int a2] => b_X3_readAtom_34 n cr (g_X3_readAtom cr n) a0 a1 a2 P
    | _, _ => none
set_option maxHeartbeats 2000000 in
set_option maxRecDepth 20000 in
theorem t_X3_readAtom_0 {G : xG} {l : Launch} (hl : l.stackTraces = false) {dp : Nat} {cr : Nat → List Value → xH → xO} (hself : ∀ t as P z, cr t as P = some z → Ct G l (dp + 10 - 1) (mt_X3_readEither t) as P (fun r P1 => (r, P1) = z)) {n : Nat} {rec : Nat → List Value → xH → xO} (hrec : ∀ pc env P z, rec pc env P = some z → ∀ L st, lay_X3_readAtom pc env = some (L, st) → ∀ Q : xR → xH → Prop, Q z.1 z.2 → Wp G l (dp + 10) mX3_readAtom pc L st P Q) {a0 a1} {P : xH} {z : xR × xH} (h : b_X3_readAtom_0 n cr rec a0 a1 P = some z) {Q : xR → xH → Prop} (hQ : Q z.1 z.2) : Wp G l (dp + 10) mX3_readAtom 0 [some (.ref a0), some (.int a1), none, none] [] P Q := by
  unfold b_X3_readAtom_0 at h
  refine x_aload_nr dX3_readAtom_0 rfl ?_
  obtain ⟨v1, e2, h⟩ := Option.bind_eq_some_iff.mp h
  refine k_rI e2 dX3_readAtom_1 f_X3_38 ?_
  refine x_sipush 140 dX3_readAtom_4 (by decide) ?_
  refine x_icmp_ne 14 dX3_readAtom_7 (by decide) (fun q3 => ?_) (fun q3 => ?_)
  · rw [if_pos q3] at h
    refine x_iconst 0 dX3_readAtom_14 (by decide) ?_
    exact Wp.mask [true, true, false, false] (hrec 15 _ _ _ h _ _ rfl _ hQ)
  · rw [if_neg (fun z9 => z9 q3)] at h
    refine x_iconst 1 dX3_readAtom_10 (by decide) ?_
    refine x_goto 15 dX3_readAtom_11 (by decide) ?_
    exact Wp.mask [true, true, false, false] (hrec 15 _ _ _ h _ _ rfl _ hQ)
set_option maxHeartbeats 2000000 in
set_option maxRecDepth 20000 in
theorem t_X3_readAtom_15 {G : xG} {l : Launch} (hl : l.stackTraces = false) {dp : Nat} {cr : Nat → List Value → xH → xO} (hself : ∀ t as P z, cr t as P = some z → Ct G l (dp + 10 - 1) (mt_X3_readEither t) as P (fun r P1 => (r, P1) = z)) {n : Nat} {rec : Nat → List Value → xH → xO} (hrec : ∀ pc env P z, rec pc env P = some z → ∀ L st, lay_X3_readAtom pc env = some (L, st) → ∀ Q : xR → xH → Prop, Q z.1 z.2 → Wp G l (dp + 10) mX3_readAtom pc L st P Q) {a0 a1 s0} {P : xH} {z : xR × xH} (h : b_X3_readAtom_15 n cr rec a0 a1 s0 P = some z) {Q : xR → xH → Prop} (hQ : Q z.1 z.2) : Wp G l (dp + 10) mX3_readAtom 15 [some (.ref a0), some (.int a1), none, none] [.int s0] P Q := by
  unfold b_X3_readAtom_15 at h
  refine x_istore_n dX3_readAtom_15 (Nat.le_of_ble_eq_true rfl) ?_
  refine x_iload_n dX3_readAtom_16 rfl ?_
  refine x_if_ne 34 dX3_readAtom_17 (by decide) (fun q10 => ?_) (fun q10 => ?_)
  · rw [if_pos q10] at h
    exact Wp.mask [true, true, true, false] (hrec 34 _ _ _ h _ _ rfl _ hQ)
  · rw [if_neg (fun z9 => z9 q10)] at h
    refine x_aload_nr dX3_readAtom_20 rfl ?_
    obtain ⟨v1, e2, h⟩ := Option.bind_eq_some_iff.mp h
    refine k_rI e2 dX3_readAtom_21 f_X3_38 ?_
    refine x_bipush 7 dX3_readAtom_24 (by decide) ?_
    refine x_icmp_eq 34 dX3_readAtom_26 (by decide) (fun q9 => ?_) (fun q9 => ?_)
    · rw [if_pos q9] at h
      exact Wp.mask [true, true, true, false] (hrec 34 _ _ _ h _ _ rfl _ hQ)
    · rw [if_neg q9] at h
      refine x_aload_nr dX3_readAtom_29 rfl ?_
      obtain ⟨_, e7, h⟩ := Option.bind_eq_some_iff.mp h
      obtain ⟨fse7, e7⟩ := kO_ok e7
      obtain ⟨r4, e5, h⟩ := Option.bind_eq_some_iff.mp h
      replace h := xI_ok h
      obtain ⟨v6, P3, rfl, h⟩ := h
      refine x_callV (c_X3_readFact hl e5) dX3_readAtom_30 cw_X3_readFact wl_X3_66 wi_X3_readFact wse_X3_readFact rfl e7 (by decide) rfl (by omega) (by decide) rfl (Nat.le_of_ble_eq_true rfl) rfl (fun v9 P9 hq9 => ?_) (fun i9 P9 hq9 => by cases hq9)
      cases hq9
      by_cases q8 : v6 = 0 ∨ v6 = 1
      · rw [if_pos q8] at h
        cases h
        exact x_iret .boolean rfl (by rcases q8 with z9 | z9 <;> rw [z9] <;> rfl) dX3_readAtom_33 hQ
      · rw [if_neg q8] at h
        cases h
set_option maxHeartbeats 2000000 in
set_option maxRecDepth 20000 in
theorem t_X3_readAtom_34 {G : xG} {l : Launch} (hl : l.stackTraces = false) {dp : Nat} {cr : Nat → List Value → xH → xO} (hself : ∀ t as P z, cr t as P = some z → Ct G l (dp + 10 - 1) (mt_X3_readEither t) as P (fun r P1 => (r, P1) = z)) {n : Nat} {rec : Nat → List Value → xH → xO} (hrec : ∀ pc env P z, rec pc env P = some z → ∀ L st, lay_X3_readAtom pc env = some (L, st) → ∀ Q : xR → xH → Prop, Q z.1 z.2 → Wp G l (dp + 10) mX3_readAtom pc L st P Q) {a0 a1 a2} {P : xH} {z : xR × xH} (h : b_X3_readAtom_34 n cr rec a0 a1 a2 P = some z) {Q : xR → xH → Prop} (hQ : Q z.1 z.2) : Wp G l (dp + 10) mX3_readAtom 34 [some (.ref a0), some (.int a1), some (.int a2), none] [] P Q := by
  unfold b_X3_readAtom_34 at h
  refine x_iload_n dX3_readAtom_34 rfl ?_
  refine x_bipush 6 dX3_readAtom_35 (by decide) ?_
  refine x_icmp_lt 45 dX3_readAtom_37 (by decide) (fun q43 => ?_) (fun q43 => ?_)
  · rw [if_pos q43] at h
    refine x_aload_nr dX3_readAtom_45 rfl ?_
    obtain ⟨_, e4, h⟩ := Option.bind_eq_some_iff.mp h
    obtain ⟨fse4, e4⟩ := kO_ok e4
    obtain ⟨r2, e3, h⟩ := Option.bind_eq_some_iff.mp h
    replace h := xU_ok h
    obtain ⟨P1, rfl, h⟩ := h
    refine x_callV (c_X3_next hl e3) dX3_readAtom_46 cw_X3_next wl_X3_35 wi_X3_next wse_X3_next rfl e4 (by decide) rfl (by omega) (by decide) rfl (Nat.le_of_ble_eq_true rfl) rfl (fun v9 P9 hq9 => ?_) (fun i9 P9 hq9 => by cases hq9)
    cases hq9
    refine x_iload_n dX3_readAtom_49 rfl ?_
    refine x_if_ne 73 dX3_readAtom_50 (by decide) (fun q36 => ?_) (fun q36 => ?_)
    · rw [if_pos q36] at h
      refine x_aload_nr dX3_readAtom_73 rfl ?_
      refine x_iload_n dX3_readAtom_74 rfl ?_
      refine x_iconst 1 dX3_readAtom_75 (by decide) ?_
      refine x_iadd dX3_readAtom_76 ?_
      obtain ⟨_, e9, h⟩ := Option.bind_eq_some_iff.mp h
      obtain ⟨fse9, e9⟩ := kO_ok e9
      obtain ⟨r6, e7, h⟩ := Option.bind_eq_some_iff.mp h
      replace h := xI_ok h
      obtain ⟨v8, P5, rfl, h⟩ := h
      refine x_callV (hself 0 _ _ _ e7) dX3_readAtom_77 cw_X3_readEither wl_X3_55 wi_X3_readEither wse_X3_readEither rfl e9 (by decide) rfl (by omega) (by decide) rfl (Nat.le_of_ble_eq_true rfl) rfl (fun v9 P9 hq9 => ?_) (fun i9 P9 hq9 => by cases hq9)
      cases hq9
      refine x_if_ne 85 dX3_readAtom_80 (by decide) (fun q23 => ?_) (fun q23 => ?_)
      · rw [if_pos q23] at h
        refine x_aload_nr dX3_readAtom_85 rfl ?_
        obtain ⟨v10, e11, h⟩ := Option.bind_eq_some_iff.mp h
        refine k_rI e11 dX3_readAtom_86 f_X3_38 ?_
        refine x_sipush 141 dX3_readAtom_89 (by decide) ?_
        refine x_icmp_eq 100 dX3_readAtom_92 (by decide) (fun q22 => ?_) (fun q22 => ?_)
        · rw [if_pos q22] at h
          refine x_aload_nr dX3_readAtom_100 rfl ?_
          obtain ⟨_, e15, h⟩ := Option.bind_eq_some_iff.mp h
          obtain ⟨fse15, e15⟩ := kO_ok e15
          obtain ⟨r13, e14, h⟩ := Option.bind_eq_some_iff.mp h
          replace h := xU_ok h
          obtain ⟨P12, rfl, h⟩ := h
          refine x_callV (c_X3_next hl e14) dX3_readAtom_101 cw_X3_next wl_X3_35 wi_X3_next wse_X3_next rfl e15 (by decide) rfl (by omega) (by decide) rfl (Nat.le_of_ble_eq_true rfl) rfl (fun v9 P9 hq9 => ?_) (fun i9 P9 hq9 => by cases hq9)
          cases hq9
          refine x_iconst 1 dX3_readAtom_104 (by decide) ?_
          cases h
          exact x_iret .boolean rfl rfl dX3_readAtom_105 hQ
        · rw [if_neg q22] at h
          refine x_aload_nr dX3_readAtom_95 rfl ?_
          obtain ⟨_, e20, h⟩ := Option.bind_eq_some_iff.mp h
          obtain ⟨fse20, e20⟩ := kO_ok e20
          obtain ⟨r17, e18, h⟩ := Option.bind_eq_some_iff.mp h
          replace h := xI_ok h
          obtain ⟨v19, P16, rfl, h⟩ := h
          refine x_callV (c_X3_fail hl e18) dX3_readAtom_96 cw_X3_fail wl_X3_45 wi_X3_fail wse_X3_fail rfl e20 (by decide) rfl (by omega) (by decide) rfl (Nat.le_of_ble_eq_true rfl) rfl (fun v9 P9 hq9 => ?_) (fun i9 P9 hq9 => by cases hq9)
          cases hq9
          by_cases q21 : v19 = 0 ∨ v19 = 1
          · rw [if_pos q21] at h
            cases h
            exact x_iret .boolean rfl (by rcases q21 with z9 | z9 <;> rw [z9] <;> rfl) dX3_readAtom_99 hQ
          · rw [if_neg q21] at h
            cases h
      · rw [if_neg (fun z9 => z9 q23)] at h
        refine x_iconst 0 dX3_readAtom_83 (by decide) ?_
        cases h
        exact x_iret .boolean rfl rfl dX3_readAtom_84 hQ
    · rw [if_neg (fun z9 => z9 q36)] at h
      refine x_aload_nr dX3_readAtom_53 rfl ?_
      refine x_iload_n dX3_readAtom_54 rfl ?_
      refine x_iconst 1 dX3_readAtom_55 (by decide) ?_
      refine x_iadd dX3_readAtom_56 ?_
      obtain ⟨_, e28, h⟩ := Option.bind_eq_some_iff.mp h
      obtain ⟨fse28, e28⟩ := kO_ok e28
      obtain ⟨r25, e26, h⟩ := Option.bind_eq_some_iff.mp h
      replace h := xI_ok h
      obtain ⟨v27, P24, rfl, h⟩ := h
      refine x_callV (hself 1 _ _ _ e26) dX3_readAtom_57 cw_X3_readAtom wl_X3_59 wi_X3_readAtom wse_X3_readAtom rfl e28 (by decide) rfl (by omega) (by decide) rfl (Nat.le_of_ble_eq_true rfl) rfl (fun v9 P9 hq9 => ?_) (fun i9 P9 hq9 => by cases hq9)
      cases hq9
      refine x_istore_n dX3_readAtom_60 (Nat.le_of_ble_eq_true rfl) ?_
      refine x_aload_nr dX3_readAtom_61 rfl ?_
      obtain ⟨v29, e30, h⟩ := Option.bind_eq_some_iff.mp h
      refine k_rA e30 dX3_readAtom_62 f_X3_12 ?_
      refine x_iconst 3 dX3_readAtom_65 (by decide) ?_
      refine x_iconst 0 dX3_readAtom_66 (by decide) ?_
      refine x_iconst 0 dX3_readAtom_67 (by decide) ?_
      obtain ⟨_, e34, h⟩ := Option.bind_eq_some_iff.mp h
      obtain ⟨fse34, e34⟩ := kO_ok e34
      obtain ⟨r32, e33, h⟩ := Option.bind_eq_some_iff.mp h
      replace h := xU_ok h
      obtain ⟨P31, rfl, h⟩ := h
      refine x_callV (c_X5_addStep hl e33) dX3_readAtom_68 cw_X5_addStep wl_X3_62 wi_X5_addStep wse_X5_addStep rfl e34 (by decide) rfl (by omega) (by decide) rfl (Nat.le_of_ble_eq_true rfl) rfl (fun v9 P9 hq9 => ?_) (fun i9 P9 hq9 => by cases hq9)
      cases hq9
      refine x_iload_n dX3_readAtom_71 rfl ?_
      by_cases q35 : v27 = 0 ∨ v27 = 1
      · rw [if_pos q35] at h
        cases h
        exact x_iret .boolean rfl (by rcases q35 with z9 | z9 <;> rw [z9] <;> rfl) dX3_readAtom_72 hQ
      · rw [if_neg q35] at h
        cases h
  · rw [if_neg q43] at h
    refine x_aload_nr dX3_readAtom_40 rfl ?_
    obtain ⟨_, e41, h⟩ := Option.bind_eq_some_iff.mp h
    obtain ⟨fse41, e41⟩ := kO_ok e41
    obtain ⟨r38, e39, h⟩ := Option.bind_eq_some_iff.mp h
    replace h := xI_ok h
    obtain ⟨v40, P37, rfl, h⟩ := h
    refine x_callV (c_X3_fail hl e39) dX3_readAtom_41 cw_X3_fail wl_X3_45 wi_X3_fail wse_X3_fail rfl e41 (by decide) rfl (by omega) (by decide) rfl (Nat.le_of_ble_eq_true rfl) rfl (fun v9 P9 hq9 => ?_) (fun i9 P9 hq9 => by cases hq9)
    cases hq9
    by_cases q42 : v40 = 0 ∨ v40 = 1
    · rw [if_pos q42] at h
      cases h
      exact x_iret .boolean rfl (by rcases q42 with z9 | z9 <;> rw [z9] <;> rfl) dX3_readAtom_44 hQ
    · rw [if_neg q42] at h
      cases h
theorem s_X3_readAtom {G : xG} {l : Launch} (hl : l.stackTraces = false) {dp : Nat} {cr : Nat → List Value → xH → xO} (hself : ∀ t as P z, cr t as P = some z → Ct G l (dp + 10 - 1) (mt_X3_readEither t) as P (fun r P1 => (r, P1) = z)) : ∀ n pc env P z, g_X3_readAtom cr n pc env P = some z → ∀ L st, lay_X3_readAtom pc env = some (L, st) → ∀ Q : xR → xH → Prop, Q z.1 z.2 → Wp G l (dp + 10) mX3_readAtom pc L st P Q := by
  intro n
  induction n with
  | zero => intro pc env P z h; cases h
  | succ n ih =>
    intro pc env P z h L st hlay Q hQ
    unfold g_X3_readAtom at h
    split at h
    · cases hlay
      exact t_X3_readAtom_0 hl hself ih h hQ
    · cases hlay
      exact t_X3_readAtom_15 hl hself ih h hQ
    · cases hlay
      exact t_X3_readAtom_34 hl hself ih h hQ
    · cases h
theorem cg_X3_readAtom {G : xG} {l : Launch} (hl : l.stackTraces = false) {dp : Nat} {cr : Nat → List Value → xH → xO} (hself : ∀ t as P z, cr t as P = some z → Ct G l (dp + 10 - 1) (mt_X3_readEither t) as P (fun r P1 => (r, P1) = z)) {n : Nat} {as : List Value} {P : xH} {z : xR × xH} (h : g_X3_readAtom cr n 0 as P = some z) : Ct G l (dp + 10) mX3_readAtom as P (fun r P1 => (r, P1) = z) := by
  cases n with
  | zero => cases h
  | succ n =>
    unfold g_X3_readAtom at h
    split at h
    · exact Ct.of hl (by decide +kernel) wc_X3_readAtom (Nat.le_of_ble_eq_true rfl) (t_X3_readAtom_0 hl hself (s_X3_readAtom hl hself _) h rfl)
    all_goals first | (cases h; done) | (rename_i q9 _; exact absurd q9 (by decide)) | (rename_i q9; exact absurd q9 (by decide)) | contradiction
def F_X3_readEither (n : Nat) : Nat → Nat → List Value → xH → xO
  | 0 => fun _ _ _ => none
  | dp + 1 => fun t as P => match t with
    | 0 => g_X3_readEither (F_X3_readEither n dp) n 0 as P
    | 1 => g_X3_readAtom (F_X3_readEither n dp) n 0 as P
    | _ => none
theorem cF_X3_readEither {G : xG} {l : Launch} (hl : l.stackTraces = false) (n : Nat) : ∀ dp t as P z, F_X3_readEither n dp t as P = some z → Ct G l (dp + 10) (mt_X3_readEither t) as P (fun r P1 => (r, P1) = z) := by
  intro dp
  induction dp with
  | zero => intro t as P z h; cases h
  | succ dp ih =>
    intro t as P z h
    unfold F_X3_readEither at h
    split at h
    · exact cg_X3_readEither (dp := dp + 1) hl (fun t as P z h9 => (show dp + 1 + 10 - 1 = dp + 10 by omega) ▸ ih t as P z h9) h
    · exact cg_X3_readAtom (dp := dp + 1) hl (fun t as P z h9 => (show dp + 1 + 10 - 1 = dp + 10 by omega) ▸ ih t as P z h9) h
    · cases h
def f_X3_readEither (n pc : Nat) (as : List Value) (P : xH) : xO := if pc = 0 then F_X3_readEither n 30 0 as P else none
theorem c_X3_readEither {G : xG} {l : Launch} (hl : l.stackTraces = false) {n : Nat} {as : List Value} {P : xH} {z : xR × xH} (h : f_X3_readEither n 0 as P = some z) : Ct G l 40 mX3_readEither as P (fun r P1 => (r, P1) = z) := cF_X3_readEither hl n 30 0 as P z h
def f_X3_readAtom (n pc : Nat) (as : List Value) (P : xH) : xO := if pc = 0 then F_X3_readEither n 30 1 as P else none
theorem c_X3_readAtom {G : xG} {l : Launch} (hl : l.stackTraces = false) {n : Nat} {as : List Value} {P : xH} {z : xR × xH} (h : f_X3_readAtom n 0 as P = some z) : Ct G l 40 mX3_readAtom as P (fun r P1 => (r, P1) = z) := cF_X3_readEither hl n 30 1 as P z h
/-! QuakeNet$Rules.addLine(II)V -/
def b_X5_addLine_0 (n : Nat) (rec : Nat → List Value → xH → xO) (a0 : Nat) (a1 : Int32) (a2 : Int32) (P : xH) : xO :=
  (rI P a0 5 3).bind fun v1 =>
  if 10 ≤ v1 then
    some (.inl none, P)
  else
    (rA P a0 5 0).bind fun v3 =>
    (rI P a0 5 3).bind fun v5 =>
    (sI P v3 v5 a1).bind fun P7 =>
    (rA P7 a0 5 1).bind fun v9 =>
    (rI P7 a0 5 3).bind fun v11 =>
    (sI P7 v9 v11 a2).bind fun P13 =>
    (rI P13 a0 5 3).bind fun v15 =>
    (wV P13 a0 5 3 (.int ((v15 + 1)))).bind fun P17 =>
    (rA P17 a0 5 2).bind fun v19 =>
    (rI P17 a0 5 3).bind fun v21 =>
    (rI P17 a0 5 5).bind fun v23 =>
    (sI P17 v19 v21 v23).bind fun P25 =>
    some (.inl none, P25)
def lay_X5_addLine : Nat → List Value → Option (xL × List Value)
  | 0, [a0, a1, a2] => some ([some a0, some a1, some a2], [])
  | _, _ => none
def f_X5_addLine : Nat → Nat → List Value → xH → xO
  | 0 => fun _ _ _ => none
  | n + 1 => fun pc env P => match pc, env with
    | 0, [.ref a0, .int a1, .int a2] => b_X5_addLine_0 n (f_X5_addLine n) a0 a1 a2 P
    | _, _ => none
set_option maxHeartbeats 2000000 in
set_option maxRecDepth 20000 in
theorem t_X5_addLine_0 {G : xG} {l : Launch} (hl : l.stackTraces = false) {n : Nat} {rec : Nat → List Value → xH → xO} (hrec : ∀ pc env P z, rec pc env P = some z → ∀ L st, lay_X5_addLine pc env = some (L, st) → ∀ Q : xR → xH → Prop, Q z.1 z.2 → Wp G l 3 mX5_addLine pc L st P Q) {a0 a1 a2} {P : xH} {z : xR × xH} (h : b_X5_addLine_0 n rec a0 a1 a2 P = some z) {Q : xR → xH → Prop} (hQ : Q z.1 z.2) : Wp G l 3 mX5_addLine 0 [some (.ref a0), some (.int a1), some (.int a2)] [] P Q := by
  unfold b_X5_addLine_0 at h
  refine x_aload_nr dX5_addLine_0 rfl ?_
  obtain ⟨v1, e2, h⟩ := Option.bind_eq_some_iff.mp h
  refine k_rI e2 dX5_addLine_1 f_X5_25 ?_
  refine x_bipush 10 dX5_addLine_4 (by decide) ?_
  refine x_icmp_ge 52 dX5_addLine_6 (by decide) (fun q27 => ?_) (fun q27 => ?_)
  · rw [if_pos q27] at h
    cases h
    exact x_ret rfl dX5_addLine_52 hQ
  · rw [if_neg q27] at h
    refine x_aload_nr dX5_addLine_9 rfl ?_
    obtain ⟨v3, e4, h⟩ := Option.bind_eq_some_iff.mp h
    refine k_rA e4 dX5_addLine_10 f_X5_9 ?_
    refine x_aload_nr dX5_addLine_13 rfl ?_
    obtain ⟨v5, e6, h⟩ := Option.bind_eq_some_iff.mp h
    refine k_rI e6 dX5_addLine_14 f_X5_25 ?_
    refine x_iload_n dX5_addLine_17 rfl ?_
    obtain ⟨P7, e8, h⟩ := Option.bind_eq_some_iff.mp h
    refine k_sI e8 dX5_addLine_18 ?_
    refine x_aload_nr dX5_addLine_19 rfl ?_
    obtain ⟨v9, e10, h⟩ := Option.bind_eq_some_iff.mp h
    refine k_rA e10 dX5_addLine_20 f_X5_13 ?_
    refine x_aload_nr dX5_addLine_23 rfl ?_
    obtain ⟨v11, e12, h⟩ := Option.bind_eq_some_iff.mp h
    refine k_rI e12 dX5_addLine_24 f_X5_25 ?_
    refine x_iload_n dX5_addLine_27 rfl ?_
    obtain ⟨P13, e14, h⟩ := Option.bind_eq_some_iff.mp h
    refine k_sI e14 dX5_addLine_28 ?_
    refine x_aload_nr dX5_addLine_29 rfl ?_
    refine x_dup dX5_addLine_30 rfl ?_
    obtain ⟨v15, e16, h⟩ := Option.bind_eq_some_iff.mp h
    refine k_rI e16 dX5_addLine_31 f_X5_25 ?_
    refine x_iconst 1 dX5_addLine_34 (by decide) ?_
    refine x_iadd dX5_addLine_35 ?_
    obtain ⟨P17, e18, h⟩ := Option.bind_eq_some_iff.mp h
    refine k_wI e18 dX5_addLine_36 f_X5_25 (Or.inl (by decide)) rfl ?_
    refine x_aload_nr dX5_addLine_39 rfl ?_
    obtain ⟨v19, e20, h⟩ := Option.bind_eq_some_iff.mp h
    refine k_rA e20 dX5_addLine_40 f_X5_16 ?_
    refine x_aload_nr dX5_addLine_43 rfl ?_
    obtain ⟨v21, e22, h⟩ := Option.bind_eq_some_iff.mp h
    refine k_rI e22 dX5_addLine_44 f_X5_25 ?_
    refine x_aload_nr dX5_addLine_47 rfl ?_
    obtain ⟨v23, e24, h⟩ := Option.bind_eq_some_iff.mp h
    refine k_rI e24 dX5_addLine_48 f_X5_29 ?_
    obtain ⟨P25, e26, h⟩ := Option.bind_eq_some_iff.mp h
    refine k_sI e26 dX5_addLine_51 ?_
    cases h
    exact x_ret rfl dX5_addLine_52 hQ
theorem s_X5_addLine {G : xG} {l : Launch} (hl : l.stackTraces = false) : ∀ n pc env P z, f_X5_addLine n pc env P = some z → ∀ L st, lay_X5_addLine pc env = some (L, st) → ∀ Q : xR → xH → Prop, Q z.1 z.2 → Wp G l 3 mX5_addLine pc L st P Q := by
  intro n
  induction n with
  | zero => intro pc env P z h; cases h
  | succ n ih =>
    intro pc env P z h L st hlay Q hQ
    unfold f_X5_addLine at h
    split at h
    · cases hlay
      exact t_X5_addLine_0 hl ih h hQ
    · cases h
theorem c_X5_addLine {G : xG} {l : Launch} (hl : l.stackTraces = false) {n : Nat} {as : List Value} {P : xH} {z : xR × xH} (h : f_X5_addLine n 0 as P = some z) : Ct G l 3 mX5_addLine as P (fun r P1 => (r, P1) = z) := by
  cases n with
  | zero => cases h
  | succ n =>
    unfold f_X5_addLine at h
    split at h
    · exact Ct.of hl (by decide +kernel) wc_X5_addLine (Nat.le_of_ble_eq_true rfl) (t_X5_addLine_0 hl (s_X5_addLine hl _) h rfl)
    all_goals first | (cases h; done) | (rename_i q9 _; exact absurd q9 (by decide)) | (rename_i q9; exact absurd q9 (by decide)) | contradiction
/-! QuakeNet$Reader.readLine()Z -/
def b_X3_readLine_0 (n : Nat) (rec : Nat → List Value → xH → xO) (a0 : Nat) (P : xH) : xO :=
  (rI P a0 3 5).bind fun v1 =>
  if v1 ≤ 3 then
    (kO P a0 3).bind fun _ =>
    (f_X3_next n 0 [.ref a0] P).bind fun r4 => xU r4 fun P3 =>
    if v1 = 0 then
      rec 30 [.ref a0, .int v1, .int 0] P3
    else
      if ¬ v1 = 2 then
        rec 73 [.ref a0, .int v1, .int 0] P3
      else
        rec 30 [.ref a0, .int v1, .int 0] P3
  else
    (kO P a0 3).bind fun _ =>
    (f_X3_fail n 0 [.ref a0] P).bind fun r10 => xI r10 fun v12 P9 =>
    if v12 = 0 ∨ v12 = 1 then some (.inl (some (.int v12)), P9) else none
def b_X3_readLine_30 (n : Nat) (rec : Nat → List Value → xH → xO) (a0 : Nat) (a1 : Int32) (a2 : Int32) (P : xH) : xO :=
  (rI P a0 3 5).bind fun v1 =>
  if ¬ v1 = 20 then
    rec 59 [.ref a0, .int a1, .int a2] P
  else
    (rI P a0 3 7).bind fun v3 =>
    if ¬ a1 = 2 then
      rec 56 [.ref a0, .int a1, .int a2, .int v3, .int 9999] P
    else
      rec 56 [.ref a0, .int a1, .int a2, .int v3, .int 100] P
def b_X3_readLine_56 (n : Nat) (rec : Nat → List Value → xH → xO) (a0 : Nat) (a1 : Int32) (a2 : Int32) (s0 : Int32) (s1 : Int32) (P : xH) : xO :=
  if s0 ≤ s1 then
    (rI P a0 3 7).bind fun v1 =>
    (kO P a0 3).bind fun _ =>
    (f_X3_next n 0 [.ref a0] P).bind fun r4 => xU r4 fun P3 =>
    rec 73 [.ref a0, .int a1, .int v1] P3
  else
    rec 59 [.ref a0, .int a1, .int a2] P
def b_X3_readLine_59 (n : Nat) (rec : Nat → List Value → xH → xO) (a0 : Nat) (a1 : Int32) (a2 : Int32) (P : xH) : xO :=
  (kO P a0 3).bind fun _ =>
  (f_X3_fail n 0 [.ref a0] P).bind fun r2 => xI r2 fun v4 P1 =>
  if v4 = 0 ∨ v4 = 1 then some (.inl (some (.int v4)), P1) else none
def b_X3_readLine_73 (n : Nat) (rec : Nat → List Value → xH → xO) (a0 : Nat) (a1 : Int32) (a2 : Int32) (P : xH) : xO :=
  (rA P a0 3 0).bind fun v1 =>
  (kO P v1 5).bind fun _ =>
  (f_X5_addLine n 0 [.ref v1, .int a1, .int a2] P).bind fun r4 => xU r4 fun P3 =>
  if a1 = 2 then
    rec 109 [.ref a0, .int a1, .int a2] P3
  else
    (rI P3 a0 3 5).bind fun v7 =>
    if ¬ v7 = 4 then
      rec 109 [.ref a0, .int a1, .int a2] P3
    else
      (kO P3 a0 3).bind fun _ =>
      (f_X3_next n 0 [.ref a0] P3).bind fun r10 => xU r10 fun P9 =>
      (kO P9 a0 3).bind fun _ =>
      (f_X3_readEither n 0 [.ref a0, .int 0] P9).bind fun r14 => xI r14 fun v16 P13 =>
      if ¬ v16 = 0 then
        rec 109 [.ref a0, .int a1, .int a2] P13
      else
        some (.inl (some (.int 0)), P13)
def b_X3_readLine_109 (n : Nat) (rec : Nat → List Value → xH → xO) (a0 : Nat) (a1 : Int32) (a2 : Int32) (P : xH) : xO :=
  (rI P a0 3 5).bind fun v1 =>
  if ¬ v1 = 21 then
    (rI P a0 3 5).bind fun v3 =>
    if v3 = 159 then
      (kO P a0 3).bind fun _ =>
      (f_X3_next n 0 [.ref a0] P).bind fun r6 => xU r6 fun P5 =>
      some (.inl (some (.int 1)), P5)
    else
      (kO P a0 3).bind fun _ =>
      (f_X3_fail n 0 [.ref a0] P).bind fun r10 => xI r10 fun v12 P9 =>
      if v12 = 0 ∨ v12 = 1 then some (.inl (some (.int v12)), P9) else none
  else
    some (.inl (some (.int 0)), P)
def lay_X3_readLine : Nat → List Value → Option (xL × List Value)
  | 0, [a0] => some ([some a0, none, none], [])
  | 30, [a0, a1, a2] => some ([some a0, some a1, some a2], [])
  | 56, [a0, a1, a2, s0, s1] => some ([some a0, some a1, some a2], [s1, s0])
  | 59, [a0, a1, a2] => some ([some a0, some a1, some a2], [])
  | 73, [a0, a1, a2] => some ([some a0, some a1, some a2], [])
  | 109, [a0, a1, a2] => some ([some a0, some a1, some a2], [])
  | _, _ => none
def f_X3_readLine : Nat → Nat → List Value → xH → xO
  | 0 => fun _ _ _ => none
  | n + 1 => fun pc env P => match pc, env with
    | 0, [.ref a0] => b_X3_readLine_0 n (f_X3_readLine n) a0 P
    | 30, [.ref a0, .int a1, .int a2] => b_X3_readLine_30 n (f_X3_readLine n) a0 a1 a2 P
    | 56, [.ref a0, .int a1, .int a2, .int s0, .int s1] => b_X3_readLine_56 n (f_X3_readLine n) a0 a1 a2 s0 s1 P
    | 59, [.ref a0, .int a1, .int a2] => b_X3_readLine_59 n (f_X3_readLine n) a0 a1 a2 P
    | 73, [.ref a0, .int a1, .int a2] => b_X3_readLine_73 n (f_X3_readLine n) a0 a1 a2 P
    | 109, [.ref a0, .int a1, .int a2] => b_X3_readLine_109 n (f_X3_readLine n) a0 a1 a2 P
    | _, _ => none
set_option maxHeartbeats 2000000 in
set_option maxRecDepth 20000 in
theorem t_X3_readLine_0 {G : xG} {l : Launch} (hl : l.stackTraces = false) {n : Nat} {rec : Nat → List Value → xH → xO} (hrec : ∀ pc env P z, rec pc env P = some z → ∀ L st, lay_X3_readLine pc env = some (L, st) → ∀ Q : xR → xH → Prop, Q z.1 z.2 → Wp G l 41 mX3_readLine pc L st P Q) {a0} {P : xH} {z : xR × xH} (h : b_X3_readLine_0 n rec a0 P = some z) {Q : xR → xH → Prop} (hQ : Q z.1 z.2) : Wp G l 41 mX3_readLine 0 [some (.ref a0), none, none] [] P Q := by
  unfold b_X3_readLine_0 at h
  refine x_aload_nr dX3_readLine_0 rfl ?_
  obtain ⟨v1, e2, h⟩ := Option.bind_eq_some_iff.mp h
  refine k_rI e2 dX3_readLine_1 f_X3_38 ?_
  refine x_istore_n dX3_readLine_4 (Nat.le_of_ble_eq_true rfl) ?_
  refine x_iload_n dX3_readLine_5 rfl ?_
  refine x_iconst 3 dX3_readLine_6 (by decide) ?_
  refine x_icmp_le 15 dX3_readLine_7 (by decide) (fun q15 => ?_) (fun q15 => ?_)
  · rw [if_pos q15] at h
    refine x_aload_nr dX3_readLine_15 rfl ?_
    obtain ⟨_, e6, h⟩ := Option.bind_eq_some_iff.mp h
    obtain ⟨fse6, e6⟩ := kO_ok e6
    obtain ⟨r4, e5, h⟩ := Option.bind_eq_some_iff.mp h
    replace h := xU_ok h
    obtain ⟨P3, rfl, h⟩ := h
    refine x_callV (c_X3_next hl e5) dX3_readLine_16 cw_X3_next wl_X3_35 wi_X3_next wse_X3_next rfl e6 (by decide) rfl (by omega) (by decide) rfl (Nat.le_of_ble_eq_true rfl) rfl (fun v9 P9 hq9 => ?_) (fun i9 P9 hq9 => by cases hq9)
    cases hq9
    refine x_iconst 0 dX3_readLine_19 (by decide) ?_
    refine x_istore_n dX3_readLine_20 (Nat.le_of_ble_eq_true rfl) ?_
    refine x_iload_n dX3_readLine_21 rfl ?_
    refine x_if_eq 30 dX3_readLine_22 (by decide) (fun q8 => ?_) (fun q8 => ?_)
    · rw [if_pos q8] at h
      exact Wp.mask [true, true, true] (hrec 30 _ _ _ h _ _ rfl _ hQ)
    · rw [if_neg q8] at h
      refine x_iload_n dX3_readLine_25 rfl ?_
      refine x_iconst 2 dX3_readLine_26 (by decide) ?_
      refine x_icmp_ne 73 dX3_readLine_27 (by decide) (fun q7 => ?_) (fun q7 => ?_)
      · rw [if_pos q7] at h
        exact Wp.mask [true, true, true] (hrec 73 _ _ _ h _ _ rfl _ hQ)
      · rw [if_neg (fun z9 => z9 q7)] at h
        exact Wp.mask [true, true, true] (hrec 30 _ _ _ h _ _ rfl _ hQ)
  · rw [if_neg q15] at h
    refine x_aload_nr dX3_readLine_10 rfl ?_
    obtain ⟨_, e13, h⟩ := Option.bind_eq_some_iff.mp h
    obtain ⟨fse13, e13⟩ := kO_ok e13
    obtain ⟨r10, e11, h⟩ := Option.bind_eq_some_iff.mp h
    replace h := xI_ok h
    obtain ⟨v12, P9, rfl, h⟩ := h
    refine x_callV (c_X3_fail hl e11) dX3_readLine_11 cw_X3_fail wl_X3_45 wi_X3_fail wse_X3_fail rfl e13 (by decide) rfl (by omega) (by decide) rfl (Nat.le_of_ble_eq_true rfl) rfl (fun v9 P9 hq9 => ?_) (fun i9 P9 hq9 => by cases hq9)
    cases hq9
    by_cases q14 : v12 = 0 ∨ v12 = 1
    · rw [if_pos q14] at h
      cases h
      exact x_iret .boolean rfl (by rcases q14 with z9 | z9 <;> rw [z9] <;> rfl) dX3_readLine_14 hQ
    · rw [if_neg q14] at h
      cases h
set_option maxHeartbeats 2000000 in
set_option maxRecDepth 20000 in
theorem t_X3_readLine_30 {G : xG} {l : Launch} (hl : l.stackTraces = false) {n : Nat} {rec : Nat → List Value → xH → xO} (hrec : ∀ pc env P z, rec pc env P = some z → ∀ L st, lay_X3_readLine pc env = some (L, st) → ∀ Q : xR → xH → Prop, Q z.1 z.2 → Wp G l 41 mX3_readLine pc L st P Q) {a0 a1 a2} {P : xH} {z : xR × xH} (h : b_X3_readLine_30 n rec a0 a1 a2 P = some z) {Q : xR → xH → Prop} (hQ : Q z.1 z.2) : Wp G l 41 mX3_readLine 30 [some (.ref a0), some (.int a1), some (.int a2)] [] P Q := by
  unfold b_X3_readLine_30 at h
  refine x_aload_nr dX3_readLine_30 rfl ?_
  obtain ⟨v1, e2, h⟩ := Option.bind_eq_some_iff.mp h
  refine k_rI e2 dX3_readLine_31 f_X3_38 ?_
  refine x_bipush 20 dX3_readLine_34 (by decide) ?_
  refine x_icmp_ne 59 dX3_readLine_36 (by decide) (fun q6 => ?_) (fun q6 => ?_)
  · rw [if_pos q6] at h
    exact Wp.mask [true, true, true] (hrec 59 _ _ _ h _ _ rfl _ hQ)
  · rw [if_neg (fun z9 => z9 q6)] at h
    refine x_aload_nr dX3_readLine_39 rfl ?_
    obtain ⟨v3, e4, h⟩ := Option.bind_eq_some_iff.mp h
    refine k_rI e4 dX3_readLine_40 f_X3_48 ?_
    refine x_iload_n dX3_readLine_43 rfl ?_
    refine x_iconst 2 dX3_readLine_44 (by decide) ?_
    refine x_icmp_ne 53 dX3_readLine_45 (by decide) (fun q5 => ?_) (fun q5 => ?_)
    · rw [if_pos q5] at h
      refine x_sipush 9999 dX3_readLine_53 (by decide) ?_
      exact Wp.mask [true, true, true] (hrec 56 _ _ _ h _ _ rfl _ hQ)
    · rw [if_neg (fun z9 => z9 q5)] at h
      refine x_bipush 100 dX3_readLine_48 (by decide) ?_
      refine x_goto 56 dX3_readLine_50 (by decide) ?_
      exact Wp.mask [true, true, true] (hrec 56 _ _ _ h _ _ rfl _ hQ)
set_option maxHeartbeats 2000000 in
set_option maxRecDepth 20000 in
theorem t_X3_readLine_56 {G : xG} {l : Launch} (hl : l.stackTraces = false) {n : Nat} {rec : Nat → List Value → xH → xO} (hrec : ∀ pc env P z, rec pc env P = some z → ∀ L st, lay_X3_readLine pc env = some (L, st) → ∀ Q : xR → xH → Prop, Q z.1 z.2 → Wp G l 41 mX3_readLine pc L st P Q) {a0 a1 a2 s0 s1} {P : xH} {z : xR × xH} (h : b_X3_readLine_56 n rec a0 a1 a2 s0 s1 P = some z) {Q : xR → xH → Prop} (hQ : Q z.1 z.2) : Wp G l 41 mX3_readLine 56 [some (.ref a0), some (.int a1), some (.int a2)] [.int s1, .int s0] P Q := by
  unfold b_X3_readLine_56 at h
  refine x_icmp_le 64 dX3_readLine_56 (by decide) (fun q7 => ?_) (fun q7 => ?_)
  · rw [if_pos q7] at h
    refine x_aload_nr dX3_readLine_64 rfl ?_
    obtain ⟨v1, e2, h⟩ := Option.bind_eq_some_iff.mp h
    refine k_rI e2 dX3_readLine_65 f_X3_48 ?_
    refine x_istore_n dX3_readLine_68 (Nat.le_of_ble_eq_true rfl) ?_
    refine x_aload_nr dX3_readLine_69 rfl ?_
    obtain ⟨_, e6, h⟩ := Option.bind_eq_some_iff.mp h
    obtain ⟨fse6, e6⟩ := kO_ok e6
    obtain ⟨r4, e5, h⟩ := Option.bind_eq_some_iff.mp h
    replace h := xU_ok h
    obtain ⟨P3, rfl, h⟩ := h
    refine x_callV (c_X3_next hl e5) dX3_readLine_70 cw_X3_next wl_X3_35 wi_X3_next wse_X3_next rfl e6 (by decide) rfl (by omega) (by decide) rfl (Nat.le_of_ble_eq_true rfl) rfl (fun v9 P9 hq9 => ?_) (fun i9 P9 hq9 => by cases hq9)
    cases hq9
    exact Wp.mask [true, true, true] (hrec 73 _ _ _ h _ _ rfl _ hQ)
  · rw [if_neg q7] at h
    exact Wp.mask [true, true, true] (hrec 59 _ _ _ h _ _ rfl _ hQ)
set_option maxHeartbeats 2000000 in
set_option maxRecDepth 20000 in
theorem t_X3_readLine_59 {G : xG} {l : Launch} (hl : l.stackTraces = false) {n : Nat} {rec : Nat → List Value → xH → xO} (hrec : ∀ pc env P z, rec pc env P = some z → ∀ L st, lay_X3_readLine pc env = some (L, st) → ∀ Q : xR → xH → Prop, Q z.1 z.2 → Wp G l 41 mX3_readLine pc L st P Q) {a0 a1 a2} {P : xH} {z : xR × xH} (h : b_X3_readLine_59 n rec a0 a1 a2 P = some z) {Q : xR → xH → Prop} (hQ : Q z.1 z.2) : Wp G l 41 mX3_readLine 59 [some (.ref a0), some (.int a1), some (.int a2)] [] P Q := by
  unfold b_X3_readLine_59 at h
  refine x_aload_nr dX3_readLine_59 rfl ?_
  obtain ⟨_, e5, h⟩ := Option.bind_eq_some_iff.mp h
  obtain ⟨fse5, e5⟩ := kO_ok e5
  obtain ⟨r2, e3, h⟩ := Option.bind_eq_some_iff.mp h
  replace h := xI_ok h
  obtain ⟨v4, P1, rfl, h⟩ := h
  refine x_callV (c_X3_fail hl e3) dX3_readLine_60 cw_X3_fail wl_X3_45 wi_X3_fail wse_X3_fail rfl e5 (by decide) rfl (by omega) (by decide) rfl (Nat.le_of_ble_eq_true rfl) rfl (fun v9 P9 hq9 => ?_) (fun i9 P9 hq9 => by cases hq9)
  cases hq9
  by_cases q6 : v4 = 0 ∨ v4 = 1
  · rw [if_pos q6] at h
    cases h
    exact x_iret .boolean rfl (by rcases q6 with z9 | z9 <;> rw [z9] <;> rfl) dX3_readLine_63 hQ
  · rw [if_neg q6] at h
    cases h
set_option maxHeartbeats 2000000 in
set_option maxRecDepth 20000 in
theorem t_X3_readLine_73 {G : xG} {l : Launch} (hl : l.stackTraces = false) {n : Nat} {rec : Nat → List Value → xH → xO} (hrec : ∀ pc env P z, rec pc env P = some z → ∀ L st, lay_X3_readLine pc env = some (L, st) → ∀ Q : xR → xH → Prop, Q z.1 z.2 → Wp G l 41 mX3_readLine pc L st P Q) {a0 a1 a2} {P : xH} {z : xR × xH} (h : b_X3_readLine_73 n rec a0 a1 a2 P = some z) {Q : xR → xH → Prop} (hQ : Q z.1 z.2) : Wp G l 41 mX3_readLine 73 [some (.ref a0), some (.int a1), some (.int a2)] [] P Q := by
  unfold b_X3_readLine_73 at h
  refine x_aload_nr dX3_readLine_73 rfl ?_
  obtain ⟨v1, e2, h⟩ := Option.bind_eq_some_iff.mp h
  refine k_rA e2 dX3_readLine_74 f_X3_12 ?_
  refine x_iload_n dX3_readLine_77 rfl ?_
  refine x_iload_n dX3_readLine_78 rfl ?_
  obtain ⟨_, e6, h⟩ := Option.bind_eq_some_iff.mp h
  obtain ⟨fse6, e6⟩ := kO_ok e6
  obtain ⟨r4, e5, h⟩ := Option.bind_eq_some_iff.mp h
  replace h := xU_ok h
  obtain ⟨P3, rfl, h⟩ := h
  refine x_callV (c_X5_addLine hl e5) dX3_readLine_79 cw_X5_addLine wl_X3_51 wi_X5_addLine wse_X5_addLine rfl e6 (by decide) rfl (by omega) (by decide) rfl (Nat.le_of_ble_eq_true rfl) rfl (fun v9 P9 hq9 => ?_) (fun i9 P9 hq9 => by cases hq9)
  cases hq9
  refine x_iload_n dX3_readLine_82 rfl ?_
  refine x_iconst 2 dX3_readLine_83 (by decide) ?_
  refine x_icmp_eq 109 dX3_readLine_84 (by decide) (fun q20 => ?_) (fun q20 => ?_)
  · rw [if_pos q20] at h
    exact Wp.mask [true, true, true] (hrec 109 _ _ _ h _ _ rfl _ hQ)
  · rw [if_neg q20] at h
    refine x_aload_nr dX3_readLine_87 rfl ?_
    obtain ⟨v7, e8, h⟩ := Option.bind_eq_some_iff.mp h
    refine k_rI e8 dX3_readLine_88 f_X3_38 ?_
    refine x_iconst 4 dX3_readLine_91 (by decide) ?_
    refine x_icmp_ne 109 dX3_readLine_92 (by decide) (fun q19 => ?_) (fun q19 => ?_)
    · rw [if_pos q19] at h
      exact Wp.mask [true, true, true] (hrec 109 _ _ _ h _ _ rfl _ hQ)
    · rw [if_neg (fun z9 => z9 q19)] at h
      refine x_aload_nr dX3_readLine_95 rfl ?_
      obtain ⟨_, e12, h⟩ := Option.bind_eq_some_iff.mp h
      obtain ⟨fse12, e12⟩ := kO_ok e12
      obtain ⟨r10, e11, h⟩ := Option.bind_eq_some_iff.mp h
      replace h := xU_ok h
      obtain ⟨P9, rfl, h⟩ := h
      refine x_callV (c_X3_next hl e11) dX3_readLine_96 cw_X3_next wl_X3_35 wi_X3_next wse_X3_next rfl e12 (by decide) rfl (by omega) (by decide) rfl (Nat.le_of_ble_eq_true rfl) rfl (fun v9 P9 hq9 => ?_) (fun i9 P9 hq9 => by cases hq9)
      cases hq9
      refine x_aload_nr dX3_readLine_99 rfl ?_
      refine x_iconst 0 dX3_readLine_100 (by decide) ?_
      obtain ⟨_, e17, h⟩ := Option.bind_eq_some_iff.mp h
      obtain ⟨fse17, e17⟩ := kO_ok e17
      obtain ⟨r14, e15, h⟩ := Option.bind_eq_some_iff.mp h
      replace h := xI_ok h
      obtain ⟨v16, P13, rfl, h⟩ := h
      refine x_callV (c_X3_readEither hl e15) dX3_readLine_101 cw_X3_readEither wl_X3_55 wi_X3_readEither wse_X3_readEither rfl e17 (by decide) rfl (by omega) (by decide) rfl (Nat.le_of_ble_eq_true rfl) rfl (fun v9 P9 hq9 => ?_) (fun i9 P9 hq9 => by cases hq9)
      cases hq9
      refine x_if_ne 109 dX3_readLine_104 (by decide) (fun q18 => ?_) (fun q18 => ?_)
      · rw [if_pos q18] at h
        exact Wp.mask [true, true, true] (hrec 109 _ _ _ h _ _ rfl _ hQ)
      · rw [if_neg (fun z9 => z9 q18)] at h
        refine x_iconst 0 dX3_readLine_107 (by decide) ?_
        cases h
        exact x_iret .boolean rfl rfl dX3_readLine_108 hQ
set_option maxHeartbeats 2000000 in
set_option maxRecDepth 20000 in
theorem t_X3_readLine_109 {G : xG} {l : Launch} (hl : l.stackTraces = false) {n : Nat} {rec : Nat → List Value → xH → xO} (hrec : ∀ pc env P z, rec pc env P = some z → ∀ L st, lay_X3_readLine pc env = some (L, st) → ∀ Q : xR → xH → Prop, Q z.1 z.2 → Wp G l 41 mX3_readLine pc L st P Q) {a0 a1 a2} {P : xH} {z : xR × xH} (h : b_X3_readLine_109 n rec a0 a1 a2 P = some z) {Q : xR → xH → Prop} (hQ : Q z.1 z.2) : Wp G l 41 mX3_readLine 109 [some (.ref a0), some (.int a1), some (.int a2)] [] P Q := by
  unfold b_X3_readLine_109 at h
  refine x_aload_nr dX3_readLine_109 rfl ?_
  obtain ⟨v1, e2, h⟩ := Option.bind_eq_some_iff.mp h
  refine k_rI e2 dX3_readLine_110 f_X3_38 ?_
  refine x_bipush 21 dX3_readLine_113 (by decide) ?_
  refine x_icmp_ne 120 dX3_readLine_115 (by decide) (fun q16 => ?_) (fun q16 => ?_)
  · rw [if_pos q16] at h
    refine x_aload_nr dX3_readLine_120 rfl ?_
    obtain ⟨v3, e4, h⟩ := Option.bind_eq_some_iff.mp h
    refine k_rI e4 dX3_readLine_121 f_X3_38 ?_
    refine x_sipush 159 dX3_readLine_124 (by decide) ?_
    refine x_icmp_eq 135 dX3_readLine_127 (by decide) (fun q15 => ?_) (fun q15 => ?_)
    · rw [if_pos q15] at h
      refine x_aload_nr dX3_readLine_135 rfl ?_
      obtain ⟨_, e8, h⟩ := Option.bind_eq_some_iff.mp h
      obtain ⟨fse8, e8⟩ := kO_ok e8
      obtain ⟨r6, e7, h⟩ := Option.bind_eq_some_iff.mp h
      replace h := xU_ok h
      obtain ⟨P5, rfl, h⟩ := h
      refine x_callV (c_X3_next hl e7) dX3_readLine_136 cw_X3_next wl_X3_35 wi_X3_next wse_X3_next rfl e8 (by decide) rfl (by omega) (by decide) rfl (Nat.le_of_ble_eq_true rfl) rfl (fun v9 P9 hq9 => ?_) (fun i9 P9 hq9 => by cases hq9)
      cases hq9
      refine x_iconst 1 dX3_readLine_139 (by decide) ?_
      cases h
      exact x_iret .boolean rfl rfl dX3_readLine_140 hQ
    · rw [if_neg q15] at h
      refine x_aload_nr dX3_readLine_130 rfl ?_
      obtain ⟨_, e13, h⟩ := Option.bind_eq_some_iff.mp h
      obtain ⟨fse13, e13⟩ := kO_ok e13
      obtain ⟨r10, e11, h⟩ := Option.bind_eq_some_iff.mp h
      replace h := xI_ok h
      obtain ⟨v12, P9, rfl, h⟩ := h
      refine x_callV (c_X3_fail hl e11) dX3_readLine_131 cw_X3_fail wl_X3_45 wi_X3_fail wse_X3_fail rfl e13 (by decide) rfl (by omega) (by decide) rfl (Nat.le_of_ble_eq_true rfl) rfl (fun v9 P9 hq9 => ?_) (fun i9 P9 hq9 => by cases hq9)
      cases hq9
      by_cases q14 : v12 = 0 ∨ v12 = 1
      · rw [if_pos q14] at h
        cases h
        exact x_iret .boolean rfl (by rcases q14 with z9 | z9 <;> rw [z9] <;> rfl) dX3_readLine_134 hQ
      · rw [if_neg q14] at h
        cases h
  · rw [if_neg (fun z9 => z9 q16)] at h
    refine x_iconst 0 dX3_readLine_118 (by decide) ?_
    cases h
    exact x_iret .boolean rfl rfl dX3_readLine_119 hQ
theorem s_X3_readLine {G : xG} {l : Launch} (hl : l.stackTraces = false) : ∀ n pc env P z, f_X3_readLine n pc env P = some z → ∀ L st, lay_X3_readLine pc env = some (L, st) → ∀ Q : xR → xH → Prop, Q z.1 z.2 → Wp G l 41 mX3_readLine pc L st P Q := by
  intro n
  induction n with
  | zero => intro pc env P z h; cases h
  | succ n ih =>
    intro pc env P z h L st hlay Q hQ
    unfold f_X3_readLine at h
    split at h
    · cases hlay
      exact t_X3_readLine_0 hl ih h hQ
    · cases hlay
      exact t_X3_readLine_30 hl ih h hQ
    · cases hlay
      exact t_X3_readLine_56 hl ih h hQ
    · cases hlay
      exact t_X3_readLine_59 hl ih h hQ
    · cases hlay
      exact t_X3_readLine_73 hl ih h hQ
    · cases hlay
      exact t_X3_readLine_109 hl ih h hQ
    · cases h
theorem c_X3_readLine {G : xG} {l : Launch} (hl : l.stackTraces = false) {n : Nat} {as : List Value} {P : xH} {z : xR × xH} (h : f_X3_readLine n 0 as P = some z) : Ct G l 41 mX3_readLine as P (fun r P1 => (r, P1) = z) := by
  cases n with
  | zero => cases h
  | succ n =>
    unfold f_X3_readLine at h
    split at h
    · exact Ct.of hl (by decide +kernel) wc_X3_readLine (Nat.le_of_ble_eq_true rfl) (t_X3_readLine_0 hl (s_X3_readLine hl _) h rfl)
    all_goals first | (cases h; done) | (rename_i q9 _; exact absurd q9 (by decide)) | (rename_i q9; exact absurd q9 (by decide)) | contradiction
/-! QuakeNet$Rules.clear()V -/
def b_X5_clear_0 (n : Nat) (rec : Nat → List Value → xH → xO) (a0 : Nat) (P : xH) : xO :=
  (wV P a0 5 3 (.int 0)).bind fun P1 =>
  (wV P1 a0 5 5 (.int 0)).bind fun P3 =>
  some (.inl none, P3)
def lay_X5_clear : Nat → List Value → Option (xL × List Value)
  | 0, [a0] => some ([some a0], [])
  | _, _ => none
def f_X5_clear : Nat → Nat → List Value → xH → xO
  | 0 => fun _ _ _ => none
  | n + 1 => fun pc env P => match pc, env with
    | 0, [.ref a0] => b_X5_clear_0 n (f_X5_clear n) a0 P
    | _, _ => none
set_option maxHeartbeats 2000000 in
set_option maxRecDepth 20000 in
theorem t_X5_clear_0 {G : xG} {l : Launch} (hl : l.stackTraces = false) {n : Nat} {rec : Nat → List Value → xH → xO} (hrec : ∀ pc env P z, rec pc env P = some z → ∀ L st, lay_X5_clear pc env = some (L, st) → ∀ Q : xR → xH → Prop, Q z.1 z.2 → Wp G l 3 mX5_clear pc L st P Q) {a0} {P : xH} {z : xR × xH} (h : b_X5_clear_0 n rec a0 P = some z) {Q : xR → xH → Prop} (hQ : Q z.1 z.2) : Wp G l 3 mX5_clear 0 [some (.ref a0)] [] P Q := by
  unfold b_X5_clear_0 at h
  refine x_aload_nr dX5_clear_0 rfl ?_
  refine x_iconst 0 dX5_clear_1 (by decide) ?_
  obtain ⟨P1, e2, h⟩ := Option.bind_eq_some_iff.mp h
  refine k_wI e2 dX5_clear_2 f_X5_25 (Or.inl (by decide)) rfl ?_
  refine x_aload_nr dX5_clear_5 rfl ?_
  refine x_iconst 0 dX5_clear_6 (by decide) ?_
  obtain ⟨P3, e4, h⟩ := Option.bind_eq_some_iff.mp h
  refine k_wI e4 dX5_clear_7 f_X5_29 (Or.inl (by decide)) rfl ?_
  cases h
  exact x_ret rfl dX5_clear_10 hQ
theorem s_X5_clear {G : xG} {l : Launch} (hl : l.stackTraces = false) : ∀ n pc env P z, f_X5_clear n pc env P = some z → ∀ L st, lay_X5_clear pc env = some (L, st) → ∀ Q : xR → xH → Prop, Q z.1 z.2 → Wp G l 3 mX5_clear pc L st P Q := by
  intro n
  induction n with
  | zero => intro pc env P z h; cases h
  | succ n ih =>
    intro pc env P z h L st hlay Q hQ
    unfold f_X5_clear at h
    split at h
    · cases hlay
      exact t_X5_clear_0 hl ih h hQ
    · cases h
theorem c_X5_clear {G : xG} {l : Launch} (hl : l.stackTraces = false) {n : Nat} {as : List Value} {P : xH} {z : xR × xH} (h : f_X5_clear n 0 as P = some z) : Ct G l 3 mX5_clear as P (fun r P1 => (r, P1) = z) := by
  cases n with
  | zero => cases h
  | succ n =>
    unfold f_X5_clear at h
    split at h
    · exact Ct.of hl (by decide +kernel) wc_X5_clear (Nat.le_of_ble_eq_true rfl) (t_X5_clear_0 hl (s_X5_clear hl _) h rfl)
    all_goals first | (cases h; done) | (rename_i q9 _; exact absurd q9 (by decide)) | (rename_i q9; exact absurd q9 (by decide)) | contradiction
/-! QuakeNet$Reader.read()Z -/
def b_X3_read_0 (n : Nat) (rec : Nat → List Value → xH → xO) (a0 : Nat) (P : xH) : xO :=
  (rA P a0 3 0).bind fun v1 =>
  (kO P v1 5).bind fun _ =>
  (f_X5_clear n 0 [.ref v1] P).bind fun r4 => xU r4 fun P3 =>
  (wV P3 a0 3 4 (.int 0)).bind fun P7 =>
  (wV P7 a0 3 3 (.int ((-1)))).bind fun P9 =>
  (kO P9 a0 3).bind fun _ =>
  (f_X3_next n 0 [.ref a0] P9).bind fun r12 => xU r12 fun P11 =>
  (rI P11 a0 3 5).bind fun v15 =>
  if v15 = 21 then
    rec 38 [.ref a0, .int 0, .int 0] P11
  else
    rec 38 [.ref a0, .int 1, .int 0] P11
def b_X3_read_38 (n : Nat) (rec : Nat → List Value → xH → xO) (a0 : Nat) (a1 : Int32) (a2 : Int32) (P : xH) : xO :=
  if 10 ≤ a2 then
    rec 59 [.ref a0, .int a1, .int a2] P
  else
    if a1 = 0 then
      rec 59 [.ref a0, .int a1, .int a2] P
    else
      (kO P a0 3).bind fun _ =>
      (f_X3_readLine n 0 [.ref a0] P).bind fun r2 => xI r2 fun v4 P1 =>
      rec 38 [.ref a0, .int v4, .int ((a2 + 1))] P1
def b_X3_read_59 (n : Nat) (rec : Nat → List Value → xH → xO) (a0 : Nat) (a1 : Int32) (a2 : Int32) (P : xH) : xO :=
  if a1 = 0 then
    rec 68 [.ref a0, .int a1, .int a2] P
  else
    (kO P a0 3).bind fun _ =>
    (f_X3_fail n 0 [.ref a0] P).bind fun r2 => xI r2 fun v4 P1 =>
    rec 68 [.ref a0, .int a1, .int a2] P1
def b_X3_read_68 (n : Nat) (rec : Nat → List Value → xH → xO) (a0 : Nat) (a1 : Int32) (a2 : Int32) (P : xH) : xO :=
  (wV P a0 3 2 (.int 0)).bind fun P1 =>
  (rI P1 a0 3 3).bind fun v3 =>
  if ¬ v3 = ((-1)) then
    some (.inl (some (.int 0)), P1)
  else
    some (.inl (some (.int 1)), P1)
def lay_X3_read : Nat → List Value → Option (xL × List Value)
  | 0, [a0] => some ([some a0, none, none], [])
  | 38, [a0, a1, a2] => some ([some a0, some a1, some a2], [])
  | 59, [a0, a1, a2] => some ([some a0, some a1, some a2], [])
  | 68, [a0, a1, a2] => some ([some a0, some a1, some a2], [])
  | _, _ => none
def f_X3_read : Nat → Nat → List Value → xH → xO
  | 0 => fun _ _ _ => none
  | n + 1 => fun pc env P => match pc, env with
    | 0, [.ref a0] => b_X3_read_0 n (f_X3_read n) a0 P
    | 38, [.ref a0, .int a1, .int a2] => b_X3_read_38 n (f_X3_read n) a0 a1 a2 P
    | 59, [.ref a0, .int a1, .int a2] => b_X3_read_59 n (f_X3_read n) a0 a1 a2 P
    | 68, [.ref a0, .int a1, .int a2] => b_X3_read_68 n (f_X3_read n) a0 a1 a2 P
    | _, _ => none
set_option maxHeartbeats 2000000 in
set_option maxRecDepth 20000 in
theorem t_X3_read_0 {G : xG} {l : Launch} (hl : l.stackTraces = false) {n : Nat} {rec : Nat → List Value → xH → xO} (hrec : ∀ pc env P z, rec pc env P = some z → ∀ L st, lay_X3_read pc env = some (L, st) → ∀ Q : xR → xH → Prop, Q z.1 z.2 → Wp G l 42 mX3_read pc L st P Q) {a0} {P : xH} {z : xR × xH} (h : b_X3_read_0 n rec a0 P = some z) {Q : xR → xH → Prop} (hQ : Q z.1 z.2) : Wp G l 42 mX3_read 0 [some (.ref a0), none, none] [] P Q := by
  unfold b_X3_read_0 at h
  refine x_aload_nr dX3_read_0 rfl ?_
  obtain ⟨v1, e2, h⟩ := Option.bind_eq_some_iff.mp h
  refine k_rA e2 dX3_read_1 f_X3_12 ?_
  obtain ⟨_, e6, h⟩ := Option.bind_eq_some_iff.mp h
  obtain ⟨fse6, e6⟩ := kO_ok e6
  obtain ⟨r4, e5, h⟩ := Option.bind_eq_some_iff.mp h
  replace h := xU_ok h
  obtain ⟨P3, rfl, h⟩ := h
  refine x_callV (c_X5_clear hl e5) dX3_read_4 cw_X5_clear wl_X3_29 wi_X5_clear wse_X5_clear rfl e6 (by decide) rfl (by omega) (by decide) rfl (Nat.le_of_ble_eq_true rfl) rfl (fun v9 P9 hq9 => ?_) (fun i9 P9 hq9 => by cases hq9)
  cases hq9
  refine x_aload_nr dX3_read_7 rfl ?_
  refine x_iconst 0 dX3_read_8 (by decide) ?_
  obtain ⟨P7, e8, h⟩ := Option.bind_eq_some_iff.mp h
  refine k_wI e8 dX3_read_9 f_X3_32 (Or.inl (by decide)) rfl ?_
  refine x_aload_nr dX3_read_12 rfl ?_
  refine x_iconst (-1) dX3_read_13 (by decide) ?_
  obtain ⟨P9, e10, h⟩ := Option.bind_eq_some_iff.mp h
  refine k_wI e10 dX3_read_14 f_X3_22 (Or.inl (by decide)) rfl ?_
  refine x_aload_nr dX3_read_17 rfl ?_
  obtain ⟨_, e14, h⟩ := Option.bind_eq_some_iff.mp h
  obtain ⟨fse14, e14⟩ := kO_ok e14
  obtain ⟨r12, e13, h⟩ := Option.bind_eq_some_iff.mp h
  replace h := xU_ok h
  obtain ⟨P11, rfl, h⟩ := h
  refine x_callV (c_X3_next hl e13) dX3_read_18 cw_X3_next wl_X3_35 wi_X3_next wse_X3_next rfl e14 (by decide) rfl (by omega) (by decide) rfl (Nat.le_of_ble_eq_true rfl) rfl (fun v9 P9 hq9 => ?_) (fun i9 P9 hq9 => by cases hq9)
  cases hq9
  refine x_aload_nr dX3_read_21 rfl ?_
  obtain ⟨v15, e16, h⟩ := Option.bind_eq_some_iff.mp h
  refine k_rI e16 dX3_read_22 f_X3_38 ?_
  refine x_bipush 21 dX3_read_25 (by decide) ?_
  refine x_icmp_eq 34 dX3_read_27 (by decide) (fun q17 => ?_) (fun q17 => ?_)
  · rw [if_pos q17] at h
    refine x_iconst 0 dX3_read_34 (by decide) ?_
    refine x_istore_n dX3_read_35 (Nat.le_of_ble_eq_true rfl) ?_
    refine x_iconst 0 dX3_read_36 (by decide) ?_
    refine x_istore_n dX3_read_37 (Nat.le_of_ble_eq_true rfl) ?_
    exact Wp.mask [true, true, true] (hrec 38 _ _ _ h _ _ rfl _ hQ)
  · rw [if_neg q17] at h
    refine x_iconst 1 dX3_read_30 (by decide) ?_
    refine x_goto 35 dX3_read_31 (by decide) ?_
    refine x_istore_n dX3_read_35 (Nat.le_of_ble_eq_true rfl) ?_
    refine x_iconst 0 dX3_read_36 (by decide) ?_
    refine x_istore_n dX3_read_37 (Nat.le_of_ble_eq_true rfl) ?_
    exact Wp.mask [true, true, true] (hrec 38 _ _ _ h _ _ rfl _ hQ)
set_option maxHeartbeats 2000000 in
set_option maxRecDepth 20000 in
theorem t_X3_read_38 {G : xG} {l : Launch} (hl : l.stackTraces = false) {n : Nat} {rec : Nat → List Value → xH → xO} (hrec : ∀ pc env P z, rec pc env P = some z → ∀ L st, lay_X3_read pc env = some (L, st) → ∀ Q : xR → xH → Prop, Q z.1 z.2 → Wp G l 42 mX3_read pc L st P Q) {a0 a1 a2} {P : xH} {z : xR × xH} (h : b_X3_read_38 n rec a0 a1 a2 P = some z) {Q : xR → xH → Prop} (hQ : Q z.1 z.2) : Wp G l 42 mX3_read 38 [some (.ref a0), some (.int a1), some (.int a2)] [] P Q := by
  unfold b_X3_read_38 at h
  refine x_iload_n dX3_read_38 rfl ?_
  refine x_bipush 10 dX3_read_39 (by decide) ?_
  refine x_icmp_ge 59 dX3_read_41 (by decide) (fun q7 => ?_) (fun q7 => ?_)
  · rw [if_pos q7] at h
    exact Wp.mask [true, true, true] (hrec 59 _ _ _ h _ _ rfl _ hQ)
  · rw [if_neg q7] at h
    refine x_iload_n dX3_read_44 rfl ?_
    refine x_if_eq 59 dX3_read_45 (by decide) (fun q6 => ?_) (fun q6 => ?_)
    · rw [if_pos q6] at h
      exact Wp.mask [true, true, true] (hrec 59 _ _ _ h _ _ rfl _ hQ)
    · rw [if_neg q6] at h
      refine x_aload_nr dX3_read_48 rfl ?_
      obtain ⟨_, e5, h⟩ := Option.bind_eq_some_iff.mp h
      obtain ⟨fse5, e5⟩ := kO_ok e5
      obtain ⟨r2, e3, h⟩ := Option.bind_eq_some_iff.mp h
      replace h := xI_ok h
      obtain ⟨v4, P1, rfl, h⟩ := h
      refine x_callV (c_X3_readLine hl e3) dX3_read_49 cw_X3_readLine wl_X3_41 wi_X3_readLine wse_X3_readLine rfl e5 (by decide) rfl (by omega) (by decide) rfl (Nat.le_of_ble_eq_true rfl) rfl (fun v9 P9 hq9 => ?_) (fun i9 P9 hq9 => by cases hq9)
      cases hq9
      refine x_istore_n dX3_read_52 (Nat.le_of_ble_eq_true rfl) ?_
      refine x_iinc (a2 + 1) dX3_read_53 rfl (by rfl) ?_
      refine x_goto 38 dX3_read_56 (by decide) ?_
      exact Wp.mask [true, true, true] (hrec 38 _ _ _ h _ _ rfl _ hQ)
set_option maxHeartbeats 2000000 in
set_option maxRecDepth 20000 in
theorem t_X3_read_59 {G : xG} {l : Launch} (hl : l.stackTraces = false) {n : Nat} {rec : Nat → List Value → xH → xO} (hrec : ∀ pc env P z, rec pc env P = some z → ∀ L st, lay_X3_read pc env = some (L, st) → ∀ Q : xR → xH → Prop, Q z.1 z.2 → Wp G l 42 mX3_read pc L st P Q) {a0 a1 a2} {P : xH} {z : xR × xH} (h : b_X3_read_59 n rec a0 a1 a2 P = some z) {Q : xR → xH → Prop} (hQ : Q z.1 z.2) : Wp G l 42 mX3_read 59 [some (.ref a0), some (.int a1), some (.int a2)] [] P Q := by
  unfold b_X3_read_59 at h
  refine x_iload_n dX3_read_59 rfl ?_
  refine x_if_eq 68 dX3_read_60 (by decide) (fun q6 => ?_) (fun q6 => ?_)
  · rw [if_pos q6] at h
    exact Wp.mask [true, true, true] (hrec 68 _ _ _ h _ _ rfl _ hQ)
  · rw [if_neg q6] at h
    refine x_aload_nr dX3_read_63 rfl ?_
    obtain ⟨_, e5, h⟩ := Option.bind_eq_some_iff.mp h
    obtain ⟨fse5, e5⟩ := kO_ok e5
    obtain ⟨r2, e3, h⟩ := Option.bind_eq_some_iff.mp h
    replace h := xI_ok h
    obtain ⟨v4, P1, rfl, h⟩ := h
    refine x_callV (c_X3_fail hl e3) dX3_read_64 cw_X3_fail wl_X3_45 wi_X3_fail wse_X3_fail rfl e5 (by decide) rfl (by omega) (by decide) rfl (Nat.le_of_ble_eq_true rfl) rfl (fun v9 P9 hq9 => ?_) (fun i9 P9 hq9 => by cases hq9)
    cases hq9
    refine x_pop dX3_read_67 rfl ?_
    exact Wp.mask [true, true, true] (hrec 68 _ _ _ h _ _ rfl _ hQ)
set_option maxHeartbeats 2000000 in
set_option maxRecDepth 20000 in
theorem t_X3_read_68 {G : xG} {l : Launch} (hl : l.stackTraces = false) {n : Nat} {rec : Nat → List Value → xH → xO} (hrec : ∀ pc env P z, rec pc env P = some z → ∀ L st, lay_X3_read pc env = some (L, st) → ∀ Q : xR → xH → Prop, Q z.1 z.2 → Wp G l 42 mX3_read pc L st P Q) {a0 a1 a2} {P : xH} {z : xR × xH} (h : b_X3_read_68 n rec a0 a1 a2 P = some z) {Q : xR → xH → Prop} (hQ : Q z.1 z.2) : Wp G l 42 mX3_read 68 [some (.ref a0), some (.int a1), some (.int a2)] [] P Q := by
  unfold b_X3_read_68 at h
  refine x_aload_nr dX3_read_68 rfl ?_
  refine x_iconst 0 dX3_read_69 (by decide) ?_
  obtain ⟨P1, e2, h⟩ := Option.bind_eq_some_iff.mp h
  refine k_wI e2 dX3_read_70 f_X3_26 (Or.inl (by decide)) rfl ?_
  refine x_aload_nr dX3_read_73 rfl ?_
  obtain ⟨v3, e4, h⟩ := Option.bind_eq_some_iff.mp h
  refine k_rI e4 dX3_read_74 f_X3_22 ?_
  refine x_iconst (-1) dX3_read_77 (by decide) ?_
  refine x_icmp_ne 85 dX3_read_78 (by decide) (fun q5 => ?_) (fun q5 => ?_)
  · rw [if_pos q5] at h
    refine x_iconst 0 dX3_read_85 (by decide) ?_
    cases h
    exact x_iret .boolean rfl rfl dX3_read_86 hQ
  · rw [if_neg (fun z9 => z9 q5)] at h
    refine x_iconst 1 dX3_read_81 (by decide) ?_
    refine x_goto 86 dX3_read_82 (by decide) ?_
    cases h
    exact x_iret .boolean rfl rfl dX3_read_86 hQ
theorem s_X3_read {G : xG} {l : Launch} (hl : l.stackTraces = false) : ∀ n pc env P z, f_X3_read n pc env P = some z → ∀ L st, lay_X3_read pc env = some (L, st) → ∀ Q : xR → xH → Prop, Q z.1 z.2 → Wp G l 42 mX3_read pc L st P Q := by
  intro n
  induction n with
  | zero => intro pc env P z h; cases h
  | succ n ih =>
    intro pc env P z h L st hlay Q hQ
    unfold f_X3_read at h
    split at h
    · cases hlay
      exact t_X3_read_0 hl ih h hQ
    · cases hlay
      exact t_X3_read_38 hl ih h hQ
    · cases hlay
      exact t_X3_read_59 hl ih h hQ
    · cases hlay
      exact t_X3_read_68 hl ih h hQ
    · cases h
theorem c_X3_read {G : xG} {l : Launch} (hl : l.stackTraces = false) {n : Nat} {as : List Value} {P : xH} {z : xR × xH} (h : f_X3_read n 0 as P = some z) : Ct G l 42 mX3_read as P (fun r P1 => (r, P1) = z) := by
  cases n with
  | zero => cases h
  | succ n =>
    unfold f_X3_read at h
    split at h
    · exact Ct.of hl (by decide +kernel) wc_X3_read (Nat.le_of_ble_eq_true rfl) (t_X3_read_0 hl (s_X3_read hl _) h rfl)
    all_goals first | (cases h; done) | (rename_i q9 _; exact absurd q9 (by decide)) | (rename_i q9; exact absurd q9 (by decide)) | contradiction
/-! QuakeNet.rules()I -/
def b_X10_rules_0 (n : Nat) (rec : Nat → List Value → xH → xO) (a0 : Nat) (P : xH) : xO :=
  (rA P a0 10 0).bind fun v1 =>
  (kO P v1 3).bind fun _ =>
  (f_X3_read n 0 [.ref v1] P).bind fun r4 => xI r4 fun v6 P3 =>
  (f_X10_needGood n 0 [.int v6] P3).bind fun r9 => xUt r9 fun P8 =>
  (kO P8 a0 10).bind fun _ =>
  (f_X10_needTickZero n 0 [.ref a0] P8).bind fun r12 => xUt r12 fun P11 =>
  (rA P11 a0 10 1).bind fun v15 =>
  (rA P11 v15 7 0).bind fun v17 =>
  (rA P11 a0 10 0).bind fun v19 =>
  (rA P11 v19 3 0).bind fun v21 =>
  (kO P11 v17 5).bind fun _ =>
  (f_X5_become n 0 [.ref v17, .ref v21] P11).bind fun r24 => xU r24 fun P23 =>
  (rA P23 a0 10 1).bind fun v27 =>
  (rA P23 v27 7 0).bind fun v29 =>
  (rI P23 v29 5 3).bind fun v31 =>
  some (.inl (some (.int v31)), P23)
def lay_X10_rules : Nat → List Value → Option (xL × List Value)
  | 0, [a0] => some ([some a0], [])
  | _, _ => none
def f_X10_rules : Nat → Nat → List Value → xH → xO
  | 0 => fun _ _ _ => none
  | n + 1 => fun pc env P => match pc, env with
    | 0, [.ref a0] => b_X10_rules_0 n (f_X10_rules n) a0 P
    | _, _ => none
set_option maxHeartbeats 2000000 in
set_option maxRecDepth 20000 in
theorem t_X10_rules_0 {G : xG} {l : Launch} (hl : l.stackTraces = false) {n : Nat} {rec : Nat → List Value → xH → xO} (hrec : ∀ pc env P z, rec pc env P = some z → ∀ L st, lay_X10_rules pc env = some (L, st) → ∀ Q : xR → xH → Prop, Q z.1 z.2 → Wp G l 43 mX10_rules pc L st P Q) {a0} {P : xH} {z : xR × xH} (h : b_X10_rules_0 n rec a0 P = some z) {Q : xR → xH → Prop} (hQ : Q z.1 z.2) : Wp G l 43 mX10_rules 0 [some (.ref a0)] [] P Q := by
  unfold b_X10_rules_0 at h
  refine x_aload_nr dX10_rules_0 rfl ?_
  obtain ⟨v1, e2, h⟩ := Option.bind_eq_some_iff.mp h
  refine k_rA e2 dX10_rules_1 f_X10_10 ?_
  obtain ⟨_, e7, h⟩ := Option.bind_eq_some_iff.mp h
  obtain ⟨fse7, e7⟩ := kO_ok e7
  obtain ⟨r4, e5, h⟩ := Option.bind_eq_some_iff.mp h
  replace h := xI_ok h
  obtain ⟨v6, P3, rfl, h⟩ := h
  refine x_callV (c_X3_read hl e5) dX10_rules_4 cw_X3_read wl_X10_103 wi_X3_read wse_X3_read rfl e7 (by decide) rfl (by omega) (by decide) rfl (Nat.le_of_ble_eq_true rfl) rfl (fun v9 P9 hq9 => ?_) (fun i9 P9 hq9 => by cases hq9)
  cases hq9
  obtain ⟨r9, e10, h⟩ := Option.bind_eq_some_iff.mp h
  replace h := xUt_ok h
  rcases h with ⟨P8, hr9, h⟩ | ⟨i8, P8, rfl, rfl⟩
  · subst hr9
    refine x_callS (c_X10_needGood hl e10) dX10_rules_7 cw_X10_needGood wl_X10_107 ws_X10_needGood rfl (by omega) (by decide) rfl (Nat.le_of_ble_eq_true rfl) rfl (fun v9 P9 hq9 => ?_) (fun i9 P9 hq9 => by cases hq9)
    cases hq9
    refine x_aload_nr dX10_rules_10 rfl ?_
    obtain ⟨_, e14, h⟩ := Option.bind_eq_some_iff.mp h
    obtain ⟨fse14, e14⟩ := kO_ok e14
    obtain ⟨r12, e13, h⟩ := Option.bind_eq_some_iff.mp h
    replace h := xUt_ok h
    rcases h with ⟨P11, hr9, h⟩ | ⟨i8, P8, rfl, rfl⟩
    · subst hr9
      refine x_callV (c_X10_needTickZero hl e13) dX10_rules_11 cw_X10_needTickZero wl_X10_78 wi_X10_needTickZero wse_X10_needTickZero rfl e14 (by decide) rfl (by omega) (by decide) rfl (Nat.le_of_ble_eq_true rfl) rfl (fun v9 P9 hq9 => ?_) (fun i9 P9 hq9 => by cases hq9)
      cases hq9
      refine x_aload_nr dX10_rules_14 rfl ?_
      obtain ⟨v15, e16, h⟩ := Option.bind_eq_some_iff.mp h
      refine k_rA e16 dX10_rules_15 f_X10_19 ?_
      obtain ⟨v17, e18, h⟩ := Option.bind_eq_some_iff.mp h
      refine k_rA e18 dX10_rules_18 f_X10_29 ?_
      refine x_aload_nr dX10_rules_21 rfl ?_
      obtain ⟨v19, e20, h⟩ := Option.bind_eq_some_iff.mp h
      refine k_rA e20 dX10_rules_22 f_X10_10 ?_
      obtain ⟨v21, e22, h⟩ := Option.bind_eq_some_iff.mp h
      refine k_rA e22 dX10_rules_25 f_X10_111 ?_
      obtain ⟨_, e26, h⟩ := Option.bind_eq_some_iff.mp h
      obtain ⟨fse26, e26⟩ := kO_ok e26
      obtain ⟨r24, e25, h⟩ := Option.bind_eq_some_iff.mp h
      replace h := xU_ok h
      obtain ⟨P23, rfl, h⟩ := h
      refine x_callV (c_X5_become hl e25) dX10_rules_28 cw_X5_become wl_X10_114 wi_X5_become wse_X5_become rfl e26 (by decide) rfl (by omega) (by decide) rfl (Nat.le_of_ble_eq_true rfl) rfl (fun v9 P9 hq9 => ?_) (fun i9 P9 hq9 => by cases hq9)
      cases hq9
      refine x_aload_nr dX10_rules_31 rfl ?_
      obtain ⟨v27, e28, h⟩ := Option.bind_eq_some_iff.mp h
      refine k_rA e28 dX10_rules_32 f_X10_19 ?_
      obtain ⟨v29, e30, h⟩ := Option.bind_eq_some_iff.mp h
      refine k_rA e30 dX10_rules_35 f_X10_29 ?_
      obtain ⟨v31, e32, h⟩ := Option.bind_eq_some_iff.mp h
      refine k_rI e32 dX10_rules_38 f_X10_120 ?_
      cases h
      exact x_iret .int rfl rfl dX10_rules_41 hQ
    · exact x_callV (c_X10_needTickZero hl e13) dX10_rules_11 cw_X10_needTickZero wl_X10_78 wi_X10_needTickZero wse_X10_needTickZero rfl e14 (by decide) rfl (by omega) (by decide) rfl (Nat.le_of_ble_eq_true rfl) rfl (fun v9 P9 hq9 => by cases hq9) (fun i9 P9 hq9 => by cases hq9; exact hQ)
  · exact x_callS (c_X10_needGood hl e10) dX10_rules_7 cw_X10_needGood wl_X10_107 ws_X10_needGood rfl (by omega) (by decide) rfl (Nat.le_of_ble_eq_true rfl) rfl (fun v9 P9 hq9 => by cases hq9) (fun i9 P9 hq9 => by cases hq9; exact hQ)
theorem s_X10_rules {G : xG} {l : Launch} (hl : l.stackTraces = false) : ∀ n pc env P z, f_X10_rules n pc env P = some z → ∀ L st, lay_X10_rules pc env = some (L, st) → ∀ Q : xR → xH → Prop, Q z.1 z.2 → Wp G l 43 mX10_rules pc L st P Q := by
  intro n
  induction n with
  | zero => intro pc env P z h; cases h
  | succ n ih =>
    intro pc env P z h L st hlay Q hQ
    unfold f_X10_rules at h
    split at h
    · cases hlay
      exact t_X10_rules_0 hl ih h hQ
    · cases h
theorem c_X10_rules {G : xG} {l : Launch} (hl : l.stackTraces = false) {n : Nat} {as : List Value} {P : xH} {z : xR × xH} (h : f_X10_rules n 0 as P = some z) : Ct G l 43 mX10_rules as P (fun r P1 => (r, P1) = z) := by
  cases n with
  | zero => cases h
  | succ n =>
    unfold f_X10_rules at h
    split at h
    · exact Ct.of hl (by decide +kernel) wc_X10_rules (Nat.le_of_ble_eq_true rfl) (t_X10_rules_0 hl (s_X10_rules hl _) h rfl)
    all_goals first | (cases h; done) | (rename_i q9 _; exact absurd q9 (by decide)) | (rename_i q9; exact absurd q9 (by decide)) | contradiction
/-! QuakeNet$Net.carries(II)Z -/
def b_X1_carries_0 (n : Nat) (rec : Nat → List Value → xH → xO) (a0 : Nat) (a1 : Int32) (a2 : Int32) (P : xH) : xO :=
  (rA P a0 1 8).bind fun v1 =>
  (aI P v1 a1).bind fun v3 =>
  if ((((v3 >>> (a2 &&& 31))) &&& 1)) = 0 then
    some (.inl (some (.int 0)), P)
  else
    some (.inl (some (.int 1)), P)
def lay_X1_carries : Nat → List Value → Option (xL × List Value)
  | 0, [a0, a1, a2] => some ([some a0, some a1, some a2], [])
  | _, _ => none
def f_X1_carries : Nat → Nat → List Value → xH → xO
  | 0 => fun _ _ _ => none
  | n + 1 => fun pc env P => match pc, env with
    | 0, [.ref a0, .int a1, .int a2] => b_X1_carries_0 n (f_X1_carries n) a0 a1 a2 P
    | _, _ => none
set_option maxHeartbeats 2000000 in
set_option maxRecDepth 20000 in
theorem t_X1_carries_0 {G : xG} {l : Launch} (hl : l.stackTraces = false) {n : Nat} {rec : Nat → List Value → xH → xO} (hrec : ∀ pc env P z, rec pc env P = some z → ∀ L st, lay_X1_carries pc env = some (L, st) → ∀ Q : xR → xH → Prop, Q z.1 z.2 → Wp G l 3 mX1_carries pc L st P Q) {a0 a1 a2} {P : xH} {z : xR × xH} (h : b_X1_carries_0 n rec a0 a1 a2 P = some z) {Q : xR → xH → Prop} (hQ : Q z.1 z.2) : Wp G l 3 mX1_carries 0 [some (.ref a0), some (.int a1), some (.int a2)] [] P Q := by
  unfold b_X1_carries_0 at h
  refine x_aload_nr dX1_carries_0 rfl ?_
  obtain ⟨v1, e2, h⟩ := Option.bind_eq_some_iff.mp h
  refine k_rA e2 dX1_carries_1 f_X1_23 ?_
  refine x_iload_n dX1_carries_4 rfl ?_
  obtain ⟨v3, e4, h⟩ := Option.bind_eq_some_iff.mp h
  refine k_aI e4 dX1_carries_5 ?_
  refine x_iload_n dX1_carries_6 rfl ?_
  refine x_ishr dX1_carries_7 ?_
  refine x_iconst 1 dX1_carries_8 (by decide) ?_
  refine x_iand dX1_carries_9 ?_
  refine x_if_eq 17 dX1_carries_10 (by decide) (fun q5 => ?_) (fun q5 => ?_)
  · rw [if_pos q5] at h
    refine x_iconst 0 dX1_carries_17 (by decide) ?_
    cases h
    exact x_iret .boolean rfl rfl dX1_carries_18 hQ
  · rw [if_neg q5] at h
    refine x_iconst 1 dX1_carries_13 (by decide) ?_
    refine x_goto 18 dX1_carries_14 (by decide) ?_
    cases h
    exact x_iret .boolean rfl rfl dX1_carries_18 hQ
theorem s_X1_carries {G : xG} {l : Launch} (hl : l.stackTraces = false) : ∀ n pc env P z, f_X1_carries n pc env P = some z → ∀ L st, lay_X1_carries pc env = some (L, st) → ∀ Q : xR → xH → Prop, Q z.1 z.2 → Wp G l 3 mX1_carries pc L st P Q := by
  intro n
  induction n with
  | zero => intro pc env P z h; cases h
  | succ n ih =>
    intro pc env P z h L st hlay Q hQ
    unfold f_X1_carries at h
    split at h
    · cases hlay
      exact t_X1_carries_0 hl ih h hQ
    · cases h
theorem c_X1_carries {G : xG} {l : Launch} (hl : l.stackTraces = false) {n : Nat} {as : List Value} {P : xH} {z : xR × xH} (h : f_X1_carries n 0 as P = some z) : Ct G l 3 mX1_carries as P (fun r P1 => (r, P1) = z) := by
  cases n with
  | zero => cases h
  | succ n =>
    unfold f_X1_carries at h
    split at h
    · exact Ct.of hl (by decide +kernel) wc_X1_carries (Nat.le_of_ble_eq_true rfl) (t_X1_carries_0 hl (s_X1_carries hl _) h rfl)
    all_goals first | (cases h; done) | (rename_i q9 _; exact absurd q9 (by decide)) | (rename_i q9; exact absurd q9 (by decide)) | contradiction
/-! QuakeNet$Net.lose(II)V -/
def b_X1_lose_0 (n : Nat) (rec : Nat → List Value → xH → xO) (a0 : Nat) (a1 : Int32) (a2 : Int32) (P : xH) : xO :=
  if a2 = ((-1)) then
    some (.inl none, P)
  else
    (kO P a0 1).bind fun _ =>
    (f_X1_carries n 0 [.ref a0, .int a1, .int a2] P).bind fun r2 => xI r2 fun v4 P1 =>
    if v4 = 0 then
      some (.inl none, P1)
    else
      (rA P1 a0 1 8).bind fun v6 =>
      (aI P1 v6 a1).bind fun v8 =>
      (sI P1 v6 a1 ((v8 &&& ((((1 <<< (a2 &&& 31))) ^^^ ((-1))))))).bind fun P10 =>
      (rA P10 a0 1 5).bind fun v12 =>
      (aA P10 v12 2).bind fun v14 =>
      (aI P10 v14 a1).bind fun v16 =>
      (sI P10 v14 a1 ((v16 - 1))).bind fun P18 =>
      (rA P18 a0 1 9).bind fun v20 =>
      (aI P18 v20 a2).bind fun v22 =>
      (sI P18 v20 a2 ((v22 - 1))).bind fun P24 =>
      some (.inl none, P24)
def lay_X1_lose : Nat → List Value → Option (xL × List Value)
  | 0, [a0, a1, a2] => some ([some a0, some a1, some a2], [])
  | _, _ => none
def f_X1_lose : Nat → Nat → List Value → xH → xO
  | 0 => fun _ _ _ => none
  | n + 1 => fun pc env P => match pc, env with
    | 0, [.ref a0, .int a1, .int a2] => b_X1_lose_0 n (f_X1_lose n) a0 a1 a2 P
    | _, _ => none
set_option maxHeartbeats 2000000 in
set_option maxRecDepth 20000 in
theorem t_X1_lose_0 {G : xG} {l : Launch} (hl : l.stackTraces = false) {n : Nat} {rec : Nat → List Value → xH → xO} (hrec : ∀ pc env P z, rec pc env P = some z → ∀ L st, lay_X1_lose pc env = some (L, st) → ∀ Q : xR → xH → Prop, Q z.1 z.2 → Wp G l 4 mX1_lose pc L st P Q) {a0 a1 a2} {P : xH} {z : xR × xH} (h : b_X1_lose_0 n rec a0 a1 a2 P = some z) {Q : xR → xH → Prop} (hQ : Q z.1 z.2) : Wp G l 4 mX1_lose 0 [some (.ref a0), some (.int a1), some (.int a2)] [] P Q := by
  unfold b_X1_lose_0 at h
  refine x_iload_n dX1_lose_0 rfl ?_
  refine x_iconst (-1) dX1_lose_1 (by decide) ?_
  refine x_icmp_eq 50 dX1_lose_2 (by decide) (fun q27 => ?_) (fun q27 => ?_)
  · rw [if_pos q27] at h
    cases h
    exact x_ret rfl dX1_lose_50 hQ
  · rw [if_neg q27] at h
    refine x_aload_nr dX1_lose_5 rfl ?_
    refine x_iload_n dX1_lose_6 rfl ?_
    refine x_iload_n dX1_lose_7 rfl ?_
    obtain ⟨_, e5, h⟩ := Option.bind_eq_some_iff.mp h
    obtain ⟨fse5, e5⟩ := kO_ok e5
    obtain ⟨r2, e3, h⟩ := Option.bind_eq_some_iff.mp h
    replace h := xI_ok h
    obtain ⟨v4, P1, rfl, h⟩ := h
    refine x_callV (c_X1_carries hl e3) dX1_lose_8 cw_X1_carries wl_X1_178 wi_X1_carries wse_X1_carries rfl e5 (by decide) rfl (by omega) (by decide) rfl (Nat.le_of_ble_eq_true rfl) rfl (fun v9 P9 hq9 => ?_) (fun i9 P9 hq9 => by cases hq9)
    cases hq9
    refine x_if_eq 50 dX1_lose_11 (by decide) (fun q26 => ?_) (fun q26 => ?_)
    · rw [if_pos q26] at h
      cases h
      exact x_ret rfl dX1_lose_50 hQ
    · rw [if_neg q26] at h
      refine x_aload_nr dX1_lose_14 rfl ?_
      obtain ⟨v6, e7, h⟩ := Option.bind_eq_some_iff.mp h
      refine k_rA e7 dX1_lose_15 f_X1_23 ?_
      refine x_iload_n dX1_lose_18 rfl ?_
      refine x_dup2 dX1_lose_19 rfl rfl ?_
      obtain ⟨v8, e9, h⟩ := Option.bind_eq_some_iff.mp h
      refine k_aI e9 dX1_lose_20 ?_
      refine x_iconst 1 dX1_lose_21 (by decide) ?_
      refine x_iload_n dX1_lose_22 rfl ?_
      refine x_ishl dX1_lose_23 ?_
      refine x_iconst (-1) dX1_lose_24 (by decide) ?_
      refine x_ixor dX1_lose_25 ?_
      refine x_iand dX1_lose_26 ?_
      obtain ⟨P10, e11, h⟩ := Option.bind_eq_some_iff.mp h
      refine k_sI e11 dX1_lose_27 ?_
      refine x_aload_nr dX1_lose_28 rfl ?_
      obtain ⟨v12, e13, h⟩ := Option.bind_eq_some_iff.mp h
      refine k_rA e13 dX1_lose_29 f_X1_13 ?_
      refine x_iconst 2 dX1_lose_32 (by decide) ?_
      obtain ⟨v14, e15, h⟩ := Option.bind_eq_some_iff.mp h
      refine k_aA e15 dX1_lose_33 ?_
      refine x_iload_n dX1_lose_34 rfl ?_
      refine x_dup2 dX1_lose_35 rfl rfl ?_
      obtain ⟨v16, e17, h⟩ := Option.bind_eq_some_iff.mp h
      refine k_aI e17 dX1_lose_36 ?_
      refine x_iconst 1 dX1_lose_37 (by decide) ?_
      refine x_isub dX1_lose_38 ?_
      obtain ⟨P18, e19, h⟩ := Option.bind_eq_some_iff.mp h
      refine k_sI e19 dX1_lose_39 ?_
      refine x_aload_nr dX1_lose_40 rfl ?_
      obtain ⟨v20, e21, h⟩ := Option.bind_eq_some_iff.mp h
      refine k_rA e21 dX1_lose_41 f_X1_27 ?_
      refine x_iload_n dX1_lose_44 rfl ?_
      refine x_dup2 dX1_lose_45 rfl rfl ?_
      obtain ⟨v22, e23, h⟩ := Option.bind_eq_some_iff.mp h
      refine k_aI e23 dX1_lose_46 ?_
      refine x_iconst 1 dX1_lose_47 (by decide) ?_
      refine x_isub dX1_lose_48 ?_
      obtain ⟨P24, e25, h⟩ := Option.bind_eq_some_iff.mp h
      refine k_sI e25 dX1_lose_49 ?_
      cases h
      exact x_ret rfl dX1_lose_50 hQ
theorem s_X1_lose {G : xG} {l : Launch} (hl : l.stackTraces = false) : ∀ n pc env P z, f_X1_lose n pc env P = some z → ∀ L st, lay_X1_lose pc env = some (L, st) → ∀ Q : xR → xH → Prop, Q z.1 z.2 → Wp G l 4 mX1_lose pc L st P Q := by
  intro n
  induction n with
  | zero => intro pc env P z h; cases h
  | succ n ih =>
    intro pc env P z h L st hlay Q hQ
    unfold f_X1_lose at h
    split at h
    · cases hlay
      exact t_X1_lose_0 hl ih h hQ
    · cases h
theorem c_X1_lose {G : xG} {l : Launch} (hl : l.stackTraces = false) {n : Nat} {as : List Value} {P : xH} {z : xR × xH} (h : f_X1_lose n 0 as P = some z) : Ct G l 4 mX1_lose as P (fun r P1 => (r, P1) = z) := by
  cases n with
  | zero => cases h
  | succ n =>
    unfold f_X1_lose at h
    split at h
    · exact Ct.of hl (by decide +kernel) wc_X1_lose (Nat.le_of_ble_eq_true rfl) (t_X1_lose_0 hl (s_X1_lose hl _) h rfl)
    all_goals first | (cases h; done) | (rename_i q9 _; exact absurd q9 (by decide)) | (rename_i q9; exact absurd q9 (by decide)) | contradiction
