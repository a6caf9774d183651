abbrev mL_law : xM := (yL_law, cL_law, 7, ret, [])
/-! QuakeNetLaw.law([I)Z -/
def b_L_law_0 (n : Nat) (N : Nat) (sc : Nat → Int32) (rec : Nat → List Value → xH → xO)  (P : xH) : xO :=
  (nO P 10).bind fun P1 =>
  (f_X10_init n 0 [.ref P.1] P1).bind fun r4 => xU r4 fun P3 =>
  (nO P3 11).bind fun P6 =>
  (f_X11_init n 0 [.ref P3.1] P6).bind fun r9 => xU r9 fun P8 =>
  (nJ' P8 1).bind fun P11 =>
  rec 23 [.ref P.1, .ref P3.1, .ref P8.1, .int 0] P11
def b_L_law_23 (n : Nat) (N : Nat) (sc : Nat → Int32) (rec : Nat → List Value → xH → xO) (a1 : Nat) (a2 : Nat) (a3 : Nat) (a4 : Int32) (P : xH) : xO :=
  if ((((Int32.ofNat N)) - 8)) < a4 then
    some (.inl (some (.int 1)), P)
  else
    (rS N sc a4).bind fun v1 =>
    if Int32.toInt ((v1 &&& 63)) < 0 ∨ 39 < Int32.toInt ((v1 &&& 63)) then
      rec 2751 [.ref a1, .ref a2, .ref a3, .int a4] P
    else
    if ((v1 &&& 63)) = 0 then
      rec 216 [.ref a1, .ref a2, .ref a3, .int a4] P
    else
    if ((v1 &&& 63)) = 1 then
      rec 289 [.ref a1, .ref a2, .ref a3, .int a4] P
    else
    if ((v1 &&& 63)) = 2 then
      rec 314 [.ref a1, .ref a2, .ref a3, .int a4] P
    else
    if ((v1 &&& 63)) = 3 then
      rec 406 [.ref a1, .ref a2, .ref a3, .int a4] P
    else
    if ((v1 &&& 63)) = 4 then
      rec 498 [.ref a1, .ref a2, .ref a3, .int a4] P
    else
    if ((v1 &&& 63)) = 5 then
      rec 542 [.ref a1, .ref a2, .ref a3, .int a4] P
    else
    if ((v1 &&& 63)) = 6 then
      rec 555 [.ref a1, .ref a2, .ref a3, .int a4] P
    else
    if ((v1 &&& 63)) = 7 then
      rec 687 [.ref a1, .ref a2, .ref a3, .int a4] P
    else
    if ((v1 &&& 63)) = 8 then
      rec 767 [.ref a1, .ref a2, .ref a3, .int a4] P
    else
    if ((v1 &&& 63)) = 9 then
      rec 823 [.ref a1, .ref a2, .ref a3, .int a4] P
    else
    if ((v1 &&& 63)) = 10 then
      rec 891 [.ref a1, .ref a2, .ref a3, .int a4] P
    else
    if ((v1 &&& 63)) = 11 then
      rec 971 [.ref a1, .ref a2, .ref a3, .int a4] P
    else
    if ((v1 &&& 63)) = 12 then
      rec 1039 [.ref a1, .ref a2, .ref a3, .int a4] P
    else
    if ((v1 &&& 63)) = 13 then
      rec 1095 [.ref a1, .ref a2, .ref a3, .int a4] P
    else
    if ((v1 &&& 63)) = 14 then
      rec 1163 [.ref a1, .ref a2, .ref a3, .int a4] P
    else
    if ((v1 &&& 63)) = 15 then
      rec 1219 [.ref a1, .ref a2, .ref a3, .int a4] P
    else
    if ((v1 &&& 63)) = 16 then
      rec 1275 [.ref a1, .ref a2, .ref a3, .int a4] P
    else
    if ((v1 &&& 63)) = 17 then
      rec 1371 [.ref a1, .ref a2, .ref a3, .int a4] P
    else
    if ((v1 &&& 63)) = 18 then
      rec 1407 [.ref a1, .ref a2, .ref a3, .int a4] P
    else
    if ((v1 &&& 63)) = 19 then
      rec 1487 [.ref a1, .ref a2, .ref a3, .int a4] P
    else
    if ((v1 &&& 63)) = 20 then
      rec 1583 [.ref a1, .ref a2, .ref a3, .int a4] P
    else
    if ((v1 &&& 63)) = 21 then
      rec 1674 [.ref a1, .ref a2, .ref a3, .int a4] P
    else
    if ((v1 &&& 63)) = 22 then
      rec 1730 [.ref a1, .ref a2, .ref a3, .int a4] P
    else
    if ((v1 &&& 63)) = 23 then
      rec 1798 [.ref a1, .ref a2, .ref a3, .int a4] P
    else
    if ((v1 &&& 63)) = 24 then
      rec 1878 [.ref a1, .ref a2, .ref a3, .int a4] P
    else
    if ((v1 &&& 63)) = 25 then
      rec 1914 [.ref a1, .ref a2, .ref a3, .int a4] P
    else
    if ((v1 &&& 63)) = 26 then
      rec 1970 [.ref a1, .ref a2, .ref a3, .int a4] P
    else
    if ((v1 &&& 63)) = 27 then
      rec 2026 [.ref a1, .ref a2, .ref a3, .int a4] P
    else
    if ((v1 &&& 63)) = 28 then
      rec 2130 [.ref a1, .ref a2, .ref a3, .int a4] P
    else
    if ((v1 &&& 63)) = 29 then
      rec 2198 [.ref a1, .ref a2, .ref a3, .int a4] P
    else
    if ((v1 &&& 63)) = 30 then
      rec 2266 [.ref a1, .ref a2, .ref a3, .int a4] P
    else
    if ((v1 &&& 63)) = 31 then
      rec 2322 [.ref a1, .ref a2, .ref a3, .int a4] P
    else
    if ((v1 &&& 63)) = 32 then
      rec 2413 [.ref a1, .ref a2, .ref a3, .int a4] P
    else
    if ((v1 &&& 63)) = 33 then
      rec 2497 [.ref a1, .ref a2, .ref a3, .int a4] P
    else
    if ((v1 &&& 63)) = 34 then
      rec 2565 [.ref a1, .ref a2, .ref a3, .int a4] P
    else
    if ((v1 &&& 63)) = 35 then
      rec 2621 [.ref a1, .ref a2, .ref a3, .int a4] P
    else
    if ((v1 &&& 63)) = 36 then
      rec 2689 [.ref a1, .ref a2, .ref a3, .int a4] P
    else
    if ((v1 &&& 63)) = 37 then
      rec 2702 [.ref a1, .ref a2, .ref a3, .int a4] P
    else
    if ((v1 &&& 63)) = 38 then
      rec 2713 [.ref a1, .ref a2, .ref a3, .int a4] P
    else
    if ((v1 &&& 63)) = 39 then
      rec 2726 [.ref a1, .ref a2, .ref a3, .int a4] P
    else
    none
def b_L_law_216 (n : Nat) (N : Nat) (sc : Nat → Int32) (rec : Nat → List Value → xH → xO) (a1 : Nat) (a2 : Nat) (a3 : Nat) (a4 : Int32) (P : xH) : xO :=
  (rS N sc ((a4 + 1))).bind fun v1 =>
  (rS N sc ((a4 + 2))).bind fun v3 =>
  (rS N sc ((a4 + 3))).bind fun v5 =>
  (rS N sc ((a4 + 4))).bind fun v7 =>
  (rS N sc ((a4 + 5))).bind fun v9 =>
  (kO P a1 10).bind fun _ =>
  (f_X10_feed n 0 [.ref a1, .int v1, .int v3, .int v5, .int v7, .int v9] P).bind fun r12 => xI r12 fun v14 P11 =>
  (rS N sc ((a4 + 1))).bind fun v16 =>
  (rS N sc ((a4 + 2))).bind fun v18 =>
  (rS N sc ((a4 + 3))).bind fun v20 =>
  (rS N sc ((a4 + 4))).bind fun v22 =>
  (rS N sc ((a4 + 5))).bind fun v24 =>
  (kO P11 a2 11).bind fun _ =>
  (f_X11_feed n 0 [.ref a2, .int v16, .int v18, .int v20, .int v22, .int v24] P11).bind fun r27 => xI r27 fun v29 P26 =>
  if v14 = v29 then
    rec 2751 [.ref a1, .ref a2, .ref a3, .int a4] P26
  else
    some (.inl (some (.int 0)), P26)
def b_L_law_289 (n : Nat) (N : Nat) (sc : Nat → Int32) (rec : Nat → List Value → xH → xO) (a1 : Nat) (a2 : Nat) (a3 : Nat) (a4 : Int32) (P : xH) : xO :=
  (rS N sc ((a4 + 1))).bind fun v1 =>
  (kO P a1 10).bind fun _ =>
  (f_X10_end n 0 [.ref a1, .int v1] P).bind fun r4 => xI r4 fun v6 P3 =>
  (rS N sc ((a4 + 1))).bind fun v8 =>
  (kO P3 a2 11).bind fun _ =>
  (f_X11_end n 0 [.ref a2, .int v8] P3).bind fun r11 => xI r11 fun v13 P10 =>
  if v6 = v13 then
    rec 2751 [.ref a1, .ref a2, .ref a3, .int a4] P10
  else
    some (.inl (some (.int 0)), P10)
def b_L_law_314 (n : Nat) (N : Nat) (sc : Nat → Int32) (rec : Nat → List Value → xH → xO) (a1 : Nat) (a2 : Nat) (a3 : Nat) (a4 : Int32) (P : xH) : xO :=
  (rS N sc ((a4 + 1))).bind fun v1 =>
  (rS N sc ((a4 + 2))).bind fun v3 =>
  (rS N sc ((a4 + 3))).bind fun v5 =>
  (rS N sc ((a4 + 4))).bind fun v7 =>
  (f_L_phone n 0 [.ref a1, .int v1, .int v3, .int v5, .int v7, .ref a3] P).bind fun r10 => xI r10 fun v12 P9 =>
  (rS N sc ((a4 + 1))).bind fun v13 =>
  (rS N sc ((a4 + 2))).bind fun v15 =>
  (rS N sc ((a4 + 3))).bind fun v17 =>
  (rS N sc ((a4 + 4))).bind fun v19 =>
  (kO P9 a2 11).bind fun _ =>
  (f_X11_phone n 0 [.ref a2, .int v13, .int v15, .int v17, .int v19] P9).bind fun r22 => xI r22 fun v24 P21 =>
  (kO P21 a2 11).bind fun _ =>
  (f_X11_thrown n 0 [.ref a2] P21).bind fun r27 => xI r27 fun v29 P26 =>
  if v29 = v12 then
    if ¬ v12 = 0 then
      rec 2751 [.ref a1, .ref a2, .ref a3, .int a4] P26
    else
      (aJ P26 a3 0).bind fun v31 =>
      if ((lg_cmp v31 ((Int32.toInt64 v24)))) = 0 then
        rec 2751 [.ref a1, .ref a2, .ref a3, .int a4] P26
      else
        some (.inl (some (.int 0)), P26)
  else
    some (.inl (some (.int 0)), P26)
def b_L_law_406 (n : Nat) (N : Nat) (sc : Nat → Int32) (rec : Nat → List Value → xH → xO) (a1 : Nat) (a2 : Nat) (a3 : Nat) (a4 : Int32) (P : xH) : xO :=
  (rS N sc ((a4 + 1))).bind fun v1 =>
  (rS N sc ((a4 + 2))).bind fun v3 =>
  (rS N sc ((a4 + 3))).bind fun v5 =>
  (rS N sc ((a4 + 4))).bind fun v7 =>
  (f_L_move n 0 [.ref a1, .int v1, .int v3, .int v5, .int v7, .ref a3] P).bind fun r10 => xI r10 fun v12 P9 =>
  (rS N sc ((a4 + 1))).bind fun v13 =>
  (rS N sc ((a4 + 2))).bind fun v15 =>
  (rS N sc ((a4 + 3))).bind fun v17 =>
  (rS N sc ((a4 + 4))).bind fun v19 =>
  (kO P9 a2 11).bind fun _ =>
  (f_X11_move n 0 [.ref a2, .int v13, .int v15, .int v17, .int v19] P9).bind fun r22 => xI r22 fun v24 P21 =>
  (kO P21 a2 11).bind fun _ =>
  (f_X11_thrown n 0 [.ref a2] P21).bind fun r27 => xI r27 fun v29 P26 =>
  if v29 = v12 then
    if ¬ v12 = 0 then
      rec 2751 [.ref a1, .ref a2, .ref a3, .int a4] P26
    else
      (aJ P26 a3 0).bind fun v31 =>
      if ((lg_cmp v31 ((Int32.toInt64 v24)))) = 0 then
        rec 2751 [.ref a1, .ref a2, .ref a3, .int a4] P26
      else
        some (.inl (some (.int 0)), P26)
  else
    some (.inl (some (.int 0)), P26)
def b_L_law_498 (n : Nat) (N : Nat) (sc : Nat → Int32) (rec : Nat → List Value → xH → xO) (a1 : Nat) (a2 : Nat) (a3 : Nat) (a4 : Int32) (P : xH) : xO :=
  (f_L_rules n 0 [.ref a1, .ref a3] P).bind fun r2 => xI r2 fun v4 P1 =>
  (kO P1 a2 11).bind fun _ =>
  (f_X11_rules n 0 [.ref a2] P1).bind fun r6 => xI r6 fun v8 P5 =>
  (kO P5 a2 11).bind fun _ =>
  (f_X11_thrown n 0 [.ref a2] P5).bind fun r11 => xI r11 fun v13 P10 =>
  if v13 = v4 then
    if ¬ v4 = 0 then
      rec 2751 [.ref a1, .ref a2, .ref a3, .int a4] P10
    else
      (aJ P10 a3 0).bind fun v15 =>
      if ((lg_cmp v15 ((Int32.toInt64 v8)))) = 0 then
        rec 2751 [.ref a1, .ref a2, .ref a3, .int a4] P10
      else
        some (.inl (some (.int 0)), P10)
  else
    some (.inl (some (.int 0)), P10)
def b_L_law_542 (n : Nat) (N : Nat) (sc : Nat → Int32) (rec : Nat → List Value → xH → xO) (a1 : Nat) (a2 : Nat) (a3 : Nat) (a4 : Int32) (P : xH) : xO :=
  (kO P a1 10).bind fun _ =>
  (f_X10_fault n 0 [.ref a1] P).bind fun r2 => xI r2 fun v4 P1 =>
  (kO P1 a2 11).bind fun _ =>
  (f_X11_fault n 0 [.ref a2] P1).bind fun r7 => xI r7 fun v9 P6 =>
  if v4 = v9 then
    rec 2751 [.ref a1, .ref a2, .ref a3, .int a4] P6
  else
    some (.inl (some (.int 0)), P6)
def b_L_law_555 (n : Nat) (N : Nat) (sc : Nat → Int32) (rec : Nat → List Value → xH → xO) (a1 : Nat) (a2 : Nat) (a3 : Nat) (a4 : Int32) (P : xH) : xO :=
  (rS N sc ((a4 + 1))).bind fun v1 =>
  (rS N sc ((a4 + 2))).bind fun v3 =>
  (rS N sc ((a4 + 3))).bind fun v5 =>
  (rS N sc ((a4 + 4))).bind fun v7 =>
  (rS N sc ((a4 + 5))).bind fun v9 =>
  (rS N sc ((a4 + 6))).bind fun v11 =>
  (rS N sc ((a4 + 7))).bind fun v13 =>
  (f_L_say n 0 [.ref a1, .int v1, .int v3, .int v5, .int v7, .int v9, .int v11, .int v13, .ref a3] P).bind fun r16 => xI r16 fun v18 P15 =>
  (rS N sc ((a4 + 1))).bind fun v19 =>
  (rS N sc ((a4 + 2))).bind fun v21 =>
  (rS N sc ((a4 + 3))).bind fun v23 =>
  (rS N sc ((a4 + 4))).bind fun v25 =>
  (rS N sc ((a4 + 5))).bind fun v27 =>
  (rS N sc ((a4 + 6))).bind fun v29 =>
  (rS N sc ((a4 + 7))).bind fun v31 =>
  (kO P15 a2 11).bind fun _ =>
  (f_X11_say n 0 [.ref a2, .int v19, .int v21, .int v23, .int v25, .int v27, .int v29, .int v31] P15).bind fun r34 => xI r34 fun v36 P33 =>
  (kO P33 a2 11).bind fun _ =>
  (f_X11_thrown n 0 [.ref a2] P33).bind fun r39 => xI r39 fun v41 P38 =>
  if v41 = v18 then
    if ¬ v18 = 0 then
      rec 2751 [.ref a1, .ref a2, .ref a3, .int a4] P38
    else
      (aJ P38 a3 0).bind fun v43 =>
      if ((lg_cmp v43 ((Int32.toInt64 v36)))) = 0 then
        rec 2751 [.ref a1, .ref a2, .ref a3, .int a4] P38
      else
        some (.inl (some (.int 0)), P38)
  else
    some (.inl (some (.int 0)), P38)
def b_L_law_687 (n : Nat) (N : Nat) (sc : Nat → Int32) (rec : Nat → List Value → xH → xO) (a1 : Nat) (a2 : Nat) (a3 : Nat) (a4 : Int32) (P : xH) : xO :=
  (rS N sc ((a4 + 1))).bind fun v1 =>
  (rS N sc ((a4 + 2))).bind fun v3 =>
  (rS N sc ((a4 + 3))).bind fun v5 =>
  (f_L_undo n 0 [.ref a1, .int v1, .int v3, .int v5, .ref a3] P).bind fun r8 => xI r8 fun v10 P7 =>
  (rS N sc ((a4 + 1))).bind fun v11 =>
  (rS N sc ((a4 + 2))).bind fun v13 =>
  (rS N sc ((a4 + 3))).bind fun v15 =>
  (kO P7 a2 11).bind fun _ =>
  (f_X11_undo n 0 [.ref a2, .int v11, .int v13, .int v15] P7).bind fun r18 => xI r18 fun v20 P17 =>
  (kO P17 a2 11).bind fun _ =>
  (f_X11_thrown n 0 [.ref a2] P17).bind fun r23 => xI r23 fun v25 P22 =>
  if v25 = v10 then
    if ¬ v10 = 0 then
      rec 2751 [.ref a1, .ref a2, .ref a3, .int a4] P22
    else
      (aJ P22 a3 0).bind fun v27 =>
      if ((lg_cmp v27 ((Int32.toInt64 v20)))) = 0 then
        rec 2751 [.ref a1, .ref a2, .ref a3, .int a4] P22
      else
        some (.inl (some (.int 0)), P22)
  else
    some (.inl (some (.int 0)), P22)
def b_L_law_767 (n : Nat) (N : Nat) (sc : Nat → Int32) (rec : Nat → List Value → xH → xO) (a1 : Nat) (a2 : Nat) (a3 : Nat) (a4 : Int32) (P : xH) : xO :=
  (rS N sc ((a4 + 1))).bind fun v1 =>
  (f_L_ticks n 0 [.ref a1, .int v1, .ref a3] P).bind fun r4 => xI r4 fun v6 P3 =>
  (rS N sc ((a4 + 1))).bind fun v7 =>
  (kO P3 a2 11).bind fun _ =>
  (f_X11_ticks n 0 [.ref a2, .int v7] P3).bind fun r10 => xI r10 fun v12 P9 =>
  (kO P9 a2 11).bind fun _ =>
  (f_X11_thrown n 0 [.ref a2] P9).bind fun r15 => xI r15 fun v17 P14 =>
  if v17 = v6 then
    if ¬ v6 = 0 then
      rec 2751 [.ref a1, .ref a2, .ref a3, .int a4] P14
    else
      (aJ P14 a3 0).bind fun v19 =>
      if ((lg_cmp v19 ((Int32.toInt64 v12)))) = 0 then
        rec 2751 [.ref a1, .ref a2, .ref a3, .int a4] P14
      else
        some (.inl (some (.int 0)), P14)
  else
    some (.inl (some (.int 0)), P14)
def b_L_law_823 (n : Nat) (N : Nat) (sc : Nat → Int32) (rec : Nat → List Value → xH → xO) (a1 : Nat) (a2 : Nat) (a3 : Nat) (a4 : Int32) (P : xH) : xO :=
  (rS N sc ((a4 + 1))).bind fun v1 =>
  (rS N sc ((a4 + 2))).bind fun v3 =>
  (f_L_look n 0 [.ref a1, .int v1, .int v3, .ref a3] P).bind fun r6 => xI r6 fun v8 P5 =>
  (rS N sc ((a4 + 1))).bind fun v9 =>
  (rS N sc ((a4 + 2))).bind fun v11 =>
  (kO P5 a2 11).bind fun _ =>
  (f_X11_look n 0 [.ref a2, .int v9, .int v11] P5).bind fun r14 => xI r14 fun v16 P13 =>
  (kO P13 a2 11).bind fun _ =>
  (f_X11_thrown n 0 [.ref a2] P13).bind fun r19 => xI r19 fun v21 P18 =>
  if v21 = v8 then
    if ¬ v8 = 0 then
      rec 2751 [.ref a1, .ref a2, .ref a3, .int a4] P18
    else
      (aJ P18 a3 0).bind fun v23 =>
      if ((lg_cmp v23 ((Int32.toInt64 v16)))) = 0 then
        rec 2751 [.ref a1, .ref a2, .ref a3, .int a4] P18
      else
        some (.inl (some (.int 0)), P18)
  else
    some (.inl (some (.int 0)), P18)
def b_L_law_891 (n : Nat) (N : Nat) (sc : Nat → Int32) (rec : Nat → List Value → xH → xO) (a1 : Nat) (a2 : Nat) (a3 : Nat) (a4 : Int32) (P : xH) : xO :=
  (rS N sc ((a4 + 1))).bind fun v1 =>
  (rS N sc ((a4 + 2))).bind fun v3 =>
  (rS N sc ((a4 + 3))).bind fun v5 =>
  (f_L_copy n 0 [.ref a1, .int v1, .int v3, .int v5, .ref a3] P).bind fun r8 => xI r8 fun v10 P7 =>
  (rS N sc ((a4 + 1))).bind fun v11 =>
  (rS N sc ((a4 + 2))).bind fun v13 =>
  (rS N sc ((a4 + 3))).bind fun v15 =>
  (kO P7 a2 11).bind fun _ =>
  (f_X11_copy n 0 [.ref a2, .int v11, .int v13, .int v15] P7).bind fun r18 => xI r18 fun v20 P17 =>
  (kO P17 a2 11).bind fun _ =>
  (f_X11_thrown n 0 [.ref a2] P17).bind fun r23 => xI r23 fun v25 P22 =>
  if v25 = v10 then
    if ¬ v10 = 0 then
      rec 2751 [.ref a1, .ref a2, .ref a3, .int a4] P22
    else
      (aJ P22 a3 0).bind fun v27 =>
      if ((lg_cmp v27 ((Int32.toInt64 v20)))) = 0 then
        rec 2751 [.ref a1, .ref a2, .ref a3, .int a4] P22
      else
        some (.inl (some (.int 0)), P22)
  else
    some (.inl (some (.int 0)), P22)
def b_L_law_971 (n : Nat) (N : Nat) (sc : Nat → Int32) (rec : Nat → List Value → xH → xO) (a1 : Nat) (a2 : Nat) (a3 : Nat) (a4 : Int32) (P : xH) : xO :=
  (rS N sc ((a4 + 1))).bind fun v1 =>
  (rS N sc ((a4 + 2))).bind fun v3 =>
  (f_L_word n 0 [.ref a1, .int v1, .int v3, .ref a3] P).bind fun r6 => xI r6 fun v8 P5 =>
  (rS N sc ((a4 + 1))).bind fun v9 =>
  (rS N sc ((a4 + 2))).bind fun v11 =>
  (kO P5 a2 11).bind fun _ =>
  (f_X11_word n 0 [.ref a2, .int v9, .int v11] P5).bind fun r14 => xI r14 fun v16 P13 =>
  (kO P13 a2 11).bind fun _ =>
  (f_X11_thrown n 0 [.ref a2] P13).bind fun r19 => xI r19 fun v21 P18 =>
  if v21 = v8 then
    if ¬ v8 = 0 then
      rec 2751 [.ref a1, .ref a2, .ref a3, .int a4] P18
    else
      (aJ P18 a3 0).bind fun v23 =>
      if ((lg_cmp v23 ((Int32.toInt64 v16)))) = 0 then
        rec 2751 [.ref a1, .ref a2, .ref a3, .int a4] P18
      else
        some (.inl (some (.int 0)), P18)
  else
    some (.inl (some (.int 0)), P18)
def b_L_law_1039 (n : Nat) (N : Nat) (sc : Nat → Int32) (rec : Nat → List Value → xH → xO) (a1 : Nat) (a2 : Nat) (a3 : Nat) (a4 : Int32) (P : xH) : xO :=
  (rS N sc ((a4 + 1))).bind fun v1 =>
  (f_L_had n 0 [.ref a1, .int v1, .ref a3] P).bind fun r4 => xI r4 fun v6 P3 =>
  (rS N sc ((a4 + 1))).bind fun v7 =>
  (kO P3 a2 11).bind fun _ =>
  (f_X11_had n 0 [.ref a2, .int v7] P3).bind fun r10 => xI r10 fun v12 P9 =>
  (kO P9 a2 11).bind fun _ =>
  (f_X11_thrown n 0 [.ref a2] P9).bind fun r15 => xI r15 fun v17 P14 =>
  if v17 = v6 then
    if ¬ v6 = 0 then
      rec 2751 [.ref a1, .ref a2, .ref a3, .int a4] P14
    else
      (aJ P14 a3 0).bind fun v19 =>
      if ((lg_cmp v19 ((Int32.toInt64 v12)))) = 0 then
        rec 2751 [.ref a1, .ref a2, .ref a3, .int a4] P14
      else
        some (.inl (some (.int 0)), P14)
  else
    some (.inl (some (.int 0)), P14)
def b_L_law_1095 (n : Nat) (N : Nat) (sc : Nat → Int32) (rec : Nat → List Value → xH → xO) (a1 : Nat) (a2 : Nat) (a3 : Nat) (a4 : Int32) (P : xH) : xO :=
  (rS N sc ((a4 + 1))).bind fun v1 =>
  (rS N sc ((a4 + 2))).bind fun v3 =>
  (f_L_way n 0 [.ref a1, .int v1, .int v3, .ref a3] P).bind fun r6 => xI r6 fun v8 P5 =>
  (rS N sc ((a4 + 1))).bind fun v9 =>
  (rS N sc ((a4 + 2))).bind fun v11 =>
  (kO P5 a2 11).bind fun _ =>
  (f_X11_way n 0 [.ref a2, .int v9, .int v11] P5).bind fun r14 => xI r14 fun v16 P13 =>
  (kO P13 a2 11).bind fun _ =>
  (f_X11_thrown n 0 [.ref a2] P13).bind fun r19 => xI r19 fun v21 P18 =>
  if v21 = v8 then
    if ¬ v8 = 0 then
      rec 2751 [.ref a1, .ref a2, .ref a3, .int a4] P18
    else
      (aJ P18 a3 0).bind fun v23 =>
      if ((lg_cmp v23 ((Int32.toInt64 v16)))) = 0 then
        rec 2751 [.ref a1, .ref a2, .ref a3, .int a4] P18
      else
        some (.inl (some (.int 0)), P18)
  else
    some (.inl (some (.int 0)), P18)
def b_L_law_1163 (n : Nat) (N : Nat) (sc : Nat → Int32) (rec : Nat → List Value → xH → xO) (a1 : Nat) (a2 : Nat) (a3 : Nat) (a4 : Int32) (P : xH) : xO :=
  (rS N sc ((a4 + 1))).bind fun v1 =>
  (f_L_late n 0 [.ref a1, .int v1, .ref a3] P).bind fun r4 => xI r4 fun v6 P3 =>
  (rS N sc ((a4 + 1))).bind fun v7 =>
  (kO P3 a2 11).bind fun _ =>
  (f_X11_late n 0 [.ref a2, .int v7] P3).bind fun r10 => xI r10 fun v12 P9 =>
  (kO P9 a2 11).bind fun _ =>
  (f_X11_thrown n 0 [.ref a2] P9).bind fun r15 => xI r15 fun v17 P14 =>
  if v17 = v6 then
    if ¬ v6 = 0 then
      rec 2751 [.ref a1, .ref a2, .ref a3, .int a4] P14
    else
      (aJ P14 a3 0).bind fun v19 =>
      if ((lg_cmp v19 ((Int32.toInt64 v12)))) = 0 then
        rec 2751 [.ref a1, .ref a2, .ref a3, .int a4] P14
      else
        some (.inl (some (.int 0)), P14)
  else
    some (.inl (some (.int 0)), P14)
def b_L_law_1219 (n : Nat) (N : Nat) (sc : Nat → Int32) (rec : Nat → List Value → xH → xO) (a1 : Nat) (a2 : Nat) (a3 : Nat) (a4 : Int32) (P : xH) : xO :=
  (rS N sc ((a4 + 1))).bind fun v1 =>
  (f_L_rumour n 0 [.ref a1, .int v1, .ref a3] P).bind fun r4 => xI r4 fun v6 P3 =>
  (rS N sc ((a4 + 1))).bind fun v7 =>
  (kO P3 a2 11).bind fun _ =>
  (f_X11_rumour n 0 [.ref a2, .int v7] P3).bind fun r10 => xI r10 fun v12 P9 =>
  (kO P9 a2 11).bind fun _ =>
  (f_X11_thrown n 0 [.ref a2] P9).bind fun r15 => xI r15 fun v17 P14 =>
  if v17 = v6 then
    if ¬ v6 = 0 then
      rec 2751 [.ref a1, .ref a2, .ref a3, .int a4] P14
    else
      (aJ P14 a3 0).bind fun v19 =>
      if ((lg_cmp v19 ((Int32.toInt64 v12)))) = 0 then
        rec 2751 [.ref a1, .ref a2, .ref a3, .int a4] P14
      else
        some (.inl (some (.int 0)), P14)
  else
    some (.inl (some (.int 0)), P14)
def b_L_law_1275 (n : Nat) (N : Nat) (sc : Nat → Int32) (rec : Nat → List Value → xH → xO) (a1 : Nat) (a2 : Nat) (a3 : Nat) (a4 : Int32) (P : xH) : xO :=
  (rS N sc ((a4 + 1))).bind fun v1 =>
  (rS N sc ((a4 + 2))).bind fun v3 =>
  (rS N sc ((a4 + 3))).bind fun v5 =>
  if v5 = 0 then
    rec 1302 [.ref a1, .ref a2, .ref a3, .int a4, .ref a1, .int v1, .int v3, .int 0] P
  else
    rec 1302 [.ref a1, .ref a2, .ref a3, .int a4, .ref a1, .int v1, .int v3, .int 1] P
def b_L_law_1302 (n : Nat) (N : Nat) (sc : Nat → Int32) (rec : Nat → List Value → xH → xO) (a1 : Nat) (a2 : Nat) (a3 : Nat) (a4 : Int32) (s0 : Nat) (s1 : Int32) (s2 : Int32) (s3 : Int32) (P : xH) : xO :=
  (f_L_sayings n 0 [.ref s0, .int s1, .int s2, .int s3, .ref a3] P).bind fun r2 => xI r2 fun v4 P1 =>
  (rS N sc ((a4 + 1))).bind fun v5 =>
  (rS N sc ((a4 + 2))).bind fun v7 =>
  (rS N sc ((a4 + 3))).bind fun v9 =>
  if v9 = 0 then
    rec 1335 [.ref a1, .ref a2, .ref a3, .int a4, .int v4, .ref a2, .int v5, .int v7, .int 0] P1
  else
    rec 1335 [.ref a1, .ref a2, .ref a3, .int a4, .int v4, .ref a2, .int v5, .int v7, .int 1] P1
def b_L_law_1335 (n : Nat) (N : Nat) (sc : Nat → Int32) (rec : Nat → List Value → xH → xO) (a1 : Nat) (a2 : Nat) (a3 : Nat) (a4 : Int32) (a5 : Int32) (s0 : Nat) (s1 : Int32) (s2 : Int32) (s3 : Int32) (P : xH) : xO :=
  (kO P s0 11).bind fun _ =>
  (f_X11_sayings n 0 [.ref s0, .int s1, .int s2, .int s3] P).bind fun r2 => xI r2 fun v4 P1 =>
  (kO P1 a2 11).bind fun _ =>
  (f_X11_thrown n 0 [.ref a2] P1).bind fun r7 => xI r7 fun v9 P6 =>
  if v9 = a5 then
    if ¬ a5 = 0 then
      rec 2751 [.ref a1, .ref a2, .ref a3, .int a4] P6
    else
      (aJ P6 a3 0).bind fun v11 =>
      if ((lg_cmp v11 ((Int32.toInt64 v4)))) = 0 then
        rec 2751 [.ref a1, .ref a2, .ref a3, .int a4] P6
      else
        some (.inl (some (.int 0)), P6)
  else
    some (.inl (some (.int 0)), P6)
def b_L_law_1371 (n : Nat) (N : Nat) (sc : Nat → Int32) (rec : Nat → List Value → xH → xO) (a1 : Nat) (a2 : Nat) (a3 : Nat) (a4 : Int32) (P : xH) : xO :=
  (rS N sc ((a4 + 1))).bind fun v1 =>
  (f_L_speed n 0 [.ref a1, .int v1] P).bind fun r4 => xI r4 fun v6 P3 =>
  (rS N sc ((a4 + 1))).bind fun v7 =>
  (kO P3 a2 11).bind fun _ =>
  (f_X11_speed n 0 [.ref a2, .int v7] P3).bind fun r10 => xU r10 fun P9 =>
  (kO P9 a2 11).bind fun _ =>
  (f_X11_thrown n 0 [.ref a2] P9).bind fun r14 => xI r14 fun v16 P13 =>
  if v16 = v6 then
    rec 2751 [.ref a1, .ref a2, .ref a3, .int a4] P13
  else
    some (.inl (some (.int 0)), P13)
def b_L_law_1407 (n : Nat) (N : Nat) (sc : Nat → Int32) (rec : Nat → List Value → xH → xO) (a1 : Nat) (a2 : Nat) (a3 : Nat) (a4 : Int32) (P : xH) : xO :=
  (rS N sc ((a4 + 1))).bind fun v1 =>
  (rS N sc ((a4 + 2))).bind fun v3 =>
  (rS N sc ((a4 + 3))).bind fun v5 =>
  (f_L_could n 0 [.ref a1, .int v1, .int v3, .int v5, .ref a3] P).bind fun r8 => xI r8 fun v10 P7 =>
  (rS N sc ((a4 + 1))).bind fun v11 =>
  (rS N sc ((a4 + 2))).bind fun v13 =>
  (rS N sc ((a4 + 3))).bind fun v15 =>
  (kO P7 a2 11).bind fun _ =>
  (f_X11_could n 0 [.ref a2, .int v11, .int v13, .int v15] P7).bind fun r18 => xI r18 fun v20 P17 =>
  (kO P17 a2 11).bind fun _ =>
  (f_X11_thrown n 0 [.ref a2] P17).bind fun r23 => xI r23 fun v25 P22 =>
  if v25 = v10 then
    if ¬ v10 = 0 then
      rec 2751 [.ref a1, .ref a2, .ref a3, .int a4] P22
    else
      (aJ P22 a3 0).bind fun v27 =>
      if ((lg_cmp v27 ((Int32.toInt64 v20)))) = 0 then
        rec 2751 [.ref a1, .ref a2, .ref a3, .int a4] P22
      else
        some (.inl (some (.int 0)), P22)
  else
    some (.inl (some (.int 0)), P22)
def b_L_law_1487 (n : Nat) (N : Nat) (sc : Nat → Int32) (rec : Nat → List Value → xH → xO) (a1 : Nat) (a2 : Nat) (a3 : Nat) (a4 : Int32) (P : xH) : xO :=
  (rS N sc ((a4 + 1))).bind fun v1 =>
  (rS N sc ((a4 + 2))).bind fun v3 =>
  (rS N sc ((a4 + 3))).bind fun v5 =>
  if v5 = 0 then
    rec 1514 [.ref a1, .ref a2, .ref a3, .int a4, .ref a1, .int v1, .int v3, .int 0] P
  else
    rec 1514 [.ref a1, .ref a2, .ref a3, .int a4, .ref a1, .int v1, .int v3, .int 1] P
def b_L_law_1514 (n : Nat) (N : Nat) (sc : Nat → Int32) (rec : Nat → List Value → xH → xO) (a1 : Nat) (a2 : Nat) (a3 : Nat) (a4 : Int32) (s0 : Nat) (s1 : Int32) (s2 : Int32) (s3 : Int32) (P : xH) : xO :=
  (f_L_least n 0 [.ref s0, .int s1, .int s2, .int s3, .ref a3] P).bind fun r2 => xI r2 fun v4 P1 =>
  (rS N sc ((a4 + 1))).bind fun v5 =>
  (rS N sc ((a4 + 2))).bind fun v7 =>
  (rS N sc ((a4 + 3))).bind fun v9 =>
  if v9 = 0 then
    rec 1547 [.ref a1, .ref a2, .ref a3, .int a4, .int v4, .ref a2, .int v5, .int v7, .int 0] P1
  else
    rec 1547 [.ref a1, .ref a2, .ref a3, .int a4, .int v4, .ref a2, .int v5, .int v7, .int 1] P1
def b_L_law_1547 (n : Nat) (N : Nat) (sc : Nat → Int32) (rec : Nat → List Value → xH → xO) (a1 : Nat) (a2 : Nat) (a3 : Nat) (a4 : Int32) (a5 : Int32) (s0 : Nat) (s1 : Int32) (s2 : Int32) (s3 : Int32) (P : xH) : xO :=
  (kO P s0 11).bind fun _ =>
  (f_X11_least n 0 [.ref s0, .int s1, .int s2, .int s3] P).bind fun r2 => xI r2 fun v4 P1 =>
  (kO P1 a2 11).bind fun _ =>
  (f_X11_thrown n 0 [.ref a2] P1).bind fun r7 => xI r7 fun v9 P6 =>
  if v9 = a5 then
    if ¬ a5 = 0 then
      rec 2751 [.ref a1, .ref a2, .ref a3, .int a4] P6
    else
      (aJ P6 a3 0).bind fun v11 =>
      if ((lg_cmp v11 ((Int32.toInt64 v4)))) = 0 then
        rec 2751 [.ref a1, .ref a2, .ref a3, .int a4] P6
      else
        some (.inl (some (.int 0)), P6)
  else
    some (.inl (some (.int 0)), P6)
def b_L_law_1583 (n : Nat) (N : Nat) (sc : Nat → Int32) (rec : Nat → List Value → xH → xO) (a1 : Nat) (a2 : Nat) (a3 : Nat) (a4 : Int32) (P : xH) : xO :=
  (rS N sc ((a4 + 1))).bind fun v1 =>
  (rS N sc ((a4 + 2))).bind fun v3 =>
  if v3 = 0 then
    rec 1604 [.ref a1, .ref a2, .ref a3, .int a4, .ref a1, .int v1, .int 0] P
  else
    rec 1604 [.ref a1, .ref a2, .ref a3, .int a4, .ref a1, .int v1, .int 1] P
def b_L_law_1604 (n : Nat) (N : Nat) (sc : Nat → Int32) (rec : Nat → List Value → xH → xO) (a1 : Nat) (a2 : Nat) (a3 : Nat) (a4 : Int32) (s0 : Nat) (s1 : Int32) (s2 : Int32) (P : xH) : xO :=
  (f_L_judge n 0 [.ref s0, .int s1, .int s2, .ref a3] P).bind fun r2 => xI r2 fun v4 P1 =>
  (rS N sc ((a4 + 1))).bind fun v5 =>
  (rS N sc ((a4 + 2))).bind fun v7 =>
  if v7 = 0 then
    rec 1631 [.ref a1, .ref a2, .ref a3, .int a4, .int v4, .ref a2, .int v5, .int 0] P1
  else
    rec 1631 [.ref a1, .ref a2, .ref a3, .int a4, .int v4, .ref a2, .int v5, .int 1] P1
def b_L_law_1631 (n : Nat) (N : Nat) (sc : Nat → Int32) (rec : Nat → List Value → xH → xO) (a1 : Nat) (a2 : Nat) (a3 : Nat) (a4 : Int32) (a5 : Int32) (s0 : Nat) (s1 : Int32) (s2 : Int32) (P : xH) : xO :=
  (kO P s0 11).bind fun _ =>
  (f_X11_judge n 0 [.ref s0, .int s1, .int s2] P).bind fun r2 => xI r2 fun v4 P1 =>
  (kO P1 a2 11).bind fun _ =>
  (f_X11_thrown n 0 [.ref a2] P1).bind fun r7 => xI r7 fun v9 P6 =>
  if v9 = a5 then
    if ¬ a5 = 0 then
      rec 2751 [.ref a1, .ref a2, .ref a3, .int a4] P6
    else
      (aJ P6 a3 0).bind fun v11 =>
      if v4 = 0 then
        rec 1665 [.ref a1, .ref a2, .ref a3, .int a4, .int a5, .int v4, .long v11, .long 0] P6
      else
        rec 1665 [.ref a1, .ref a2, .ref a3, .int a4, .int a5, .int v4, .long v11, .long 1] P6
  else
    some (.inl (some (.int 0)), P6)
def b_L_law_1665 (n : Nat) (N : Nat) (sc : Nat → Int32) (rec : Nat → List Value → xH → xO) (a1 : Nat) (a2 : Nat) (a3 : Nat) (a4 : Int32) (a5 : Int32) (a6 : Int32) (s0 : Int64) (s1 : Int64) (P : xH) : xO :=
  if ((lg_cmp s0 s1)) = 0 then
    rec 2751 [.ref a1, .ref a2, .ref a3, .int a4] P
  else
    some (.inl (some (.int 0)), P)
def b_L_law_1674 (n : Nat) (N : Nat) (sc : Nat → Int32) (rec : Nat → List Value → xH → xO) (a1 : Nat) (a2 : Nat) (a3 : Nat) (a4 : Int32) (P : xH) : xO :=
  (rS N sc ((a4 + 1))).bind fun v1 =>
  (f_L_weight n 0 [.ref a1, .int v1, .ref a3] P).bind fun r4 => xI r4 fun v6 P3 =>
  (rS N sc ((a4 + 1))).bind fun v7 =>
  (kO P3 a2 11).bind fun _ =>
  (f_X11_weight n 0 [.ref a2, .int v7] P3).bind fun r10 => xI r10 fun v12 P9 =>
  (kO P9 a2 11).bind fun _ =>
  (f_X11_thrown n 0 [.ref a2] P9).bind fun r15 => xI r15 fun v17 P14 =>
  if v17 = v6 then
    if ¬ v6 = 0 then
      rec 2751 [.ref a1, .ref a2, .ref a3, .int a4] P14
    else
      (aJ P14 a3 0).bind fun v19 =>
      if ((lg_cmp v19 ((Int32.toInt64 v12)))) = 0 then
        rec 2751 [.ref a1, .ref a2, .ref a3, .int a4] P14
      else
        some (.inl (some (.int 0)), P14)
  else
    some (.inl (some (.int 0)), P14)
def b_L_law_1730 (n : Nat) (N : Nat) (sc : Nat → Int32) (rec : Nat → List Value → xH → xO) (a1 : Nat) (a2 : Nat) (a3 : Nat) (a4 : Int32) (P : xH) : xO :=
  (rS N sc ((a4 + 1))).bind fun v1 =>
  (rS N sc ((a4 + 2))).bind fun v3 =>
  (f_L_sure n 0 [.ref a1, .int v1, .int v3, .ref a3] P).bind fun r6 => xI r6 fun v8 P5 =>
  (rS N sc ((a4 + 1))).bind fun v9 =>
  (rS N sc ((a4 + 2))).bind fun v11 =>
  (kO P5 a2 11).bind fun _ =>
  (f_X11_sure n 0 [.ref a2, .int v9, .int v11] P5).bind fun r14 => xI r14 fun v16 P13 =>
  (kO P13 a2 11).bind fun _ =>
  (f_X11_thrown n 0 [.ref a2] P13).bind fun r19 => xI r19 fun v21 P18 =>
  if v21 = v8 then
    if ¬ v8 = 0 then
      rec 2751 [.ref a1, .ref a2, .ref a3, .int a4] P18
    else
      (aJ P18 a3 0).bind fun v23 =>
      if ((lg_cmp v23 ((Int32.toInt64 v16)))) = 0 then
        rec 2751 [.ref a1, .ref a2, .ref a3, .int a4] P18
      else
        some (.inl (some (.int 0)), P18)
  else
    some (.inl (some (.int 0)), P18)
def b_L_law_1798 (n : Nat) (N : Nat) (sc : Nat → Int32) (rec : Nat → List Value → xH → xO) (a1 : Nat) (a2 : Nat) (a3 : Nat) (a4 : Int32) (P : xH) : xO :=
  (rS N sc ((a4 + 1))).bind fun v1 =>
  (rS N sc ((a4 + 2))).bind fun v3 =>
  (rS N sc ((a4 + 3))).bind fun v5 =>
  (f_L_describe n 0 [.ref a1, .int v1, .int v3, .int v5, .ref a3] P).bind fun r8 => xI r8 fun v10 P7 =>
  (rS N sc ((a4 + 1))).bind fun v11 =>
  (rS N sc ((a4 + 2))).bind fun v13 =>
  (rS N sc ((a4 + 3))).bind fun v15 =>
  (kO P7 a2 11).bind fun _ =>
  (f_X11_describe n 0 [.ref a2, .int v11, .int v13, .int v15] P7).bind fun r18 => xI r18 fun v20 P17 =>
  (kO P17 a2 11).bind fun _ =>
  (f_X11_thrown n 0 [.ref a2] P17).bind fun r23 => xI r23 fun v25 P22 =>
  if v25 = v10 then
    if ¬ v10 = 0 then
      rec 2751 [.ref a1, .ref a2, .ref a3, .int a4] P22
    else
      (aJ P22 a3 0).bind fun v27 =>
      if ((lg_cmp v27 ((Int32.toInt64 v20)))) = 0 then
        rec 2751 [.ref a1, .ref a2, .ref a3, .int a4] P22
      else
        some (.inl (some (.int 0)), P22)
  else
    some (.inl (some (.int 0)), P22)
def b_L_law_1878 (n : Nat) (N : Nat) (sc : Nat → Int32) (rec : Nat → List Value → xH → xO) (a1 : Nat) (a2 : Nat) (a3 : Nat) (a4 : Int32) (P : xH) : xO :=
  (rS N sc ((a4 + 1))).bind fun v1 =>
  (f_L_apart n 0 [.ref a1, .int v1] P).bind fun r4 => xI r4 fun v6 P3 =>
  (rS N sc ((a4 + 1))).bind fun v7 =>
  (kO P3 a2 11).bind fun _ =>
  (f_X11_apart n 0 [.ref a2, .int v7] P3).bind fun r10 => xU r10 fun P9 =>
  (kO P9 a2 11).bind fun _ =>
  (f_X11_thrown n 0 [.ref a2] P9).bind fun r14 => xI r14 fun v16 P13 =>
  if v16 = v6 then
    rec 2751 [.ref a1, .ref a2, .ref a3, .int a4] P13
  else
    some (.inl (some (.int 0)), P13)
def b_L_law_1914 (n : Nat) (N : Nat) (sc : Nat → Int32) (rec : Nat → List Value → xH → xO) (a1 : Nat) (a2 : Nat) (a3 : Nat) (a4 : Int32) (P : xH) : xO :=
  (rS N sc ((a4 + 1))).bind fun v1 =>
  (f_L_heaps n 0 [.ref a1, .int v1, .ref a3] P).bind fun r4 => xI r4 fun v6 P3 =>
  (rS N sc ((a4 + 1))).bind fun v7 =>
  (kO P3 a2 11).bind fun _ =>
  (f_X11_heaps n 0 [.ref a2, .int v7] P3).bind fun r10 => xI r10 fun v12 P9 =>
  (kO P9 a2 11).bind fun _ =>
  (f_X11_thrown n 0 [.ref a2] P9).bind fun r15 => xI r15 fun v17 P14 =>
  if v17 = v6 then
    if ¬ v6 = 0 then
      rec 2751 [.ref a1, .ref a2, .ref a3, .int a4] P14
    else
      (aJ P14 a3 0).bind fun v19 =>
      if ((lg_cmp v19 ((Int32.toInt64 v12)))) = 0 then
        rec 2751 [.ref a1, .ref a2, .ref a3, .int a4] P14
      else
        some (.inl (some (.int 0)), P14)
  else
    some (.inl (some (.int 0)), P14)
def b_L_law_1970 (n : Nat) (N : Nat) (sc : Nat → Int32) (rec : Nat → List Value → xH → xO) (a1 : Nat) (a2 : Nat) (a3 : Nat) (a4 : Int32) (P : xH) : xO :=
  (rS N sc ((a4 + 1))).bind fun v1 =>
  (f_L_heap n 0 [.ref a1, .int v1, .ref a3] P).bind fun r4 => xI r4 fun v6 P3 =>
  (rS N sc ((a4 + 1))).bind fun v7 =>
  (kO P3 a2 11).bind fun _ =>
  (f_X11_heap n 0 [.ref a2, .int v7] P3).bind fun r10 => xI r10 fun v12 P9 =>
  (kO P9 a2 11).bind fun _ =>
  (f_X11_thrown n 0 [.ref a2] P9).bind fun r15 => xI r15 fun v17 P14 =>
  if v17 = v6 then
    if ¬ v6 = 0 then
      rec 2751 [.ref a1, .ref a2, .ref a3, .int a4] P14
    else
      (aJ P14 a3 0).bind fun v19 =>
      if ((lg_cmp v19 ((Int32.toInt64 v12)))) = 0 then
        rec 2751 [.ref a1, .ref a2, .ref a3, .int a4] P14
      else
        some (.inl (some (.int 0)), P14)
  else
    some (.inl (some (.int 0)), P14)
def b_L_law_2026 (n : Nat) (N : Nat) (sc : Nat → Int32) (rec : Nat → List Value → xH → xO) (a1 : Nat) (a2 : Nat) (a3 : Nat) (a4 : Int32) (P : xH) : xO :=
  (rS N sc ((a4 + 1))).bind fun v1 =>
  (rS N sc ((a4 + 2))).bind fun v3 =>
  (rS N sc ((a4 + 3))).bind fun v5 =>
  (rS N sc ((a4 + 4))).bind fun v7 =>
  (rS N sc ((a4 + 5))).bind fun v9 =>
  (f_L_stones n 0 [.ref a1, .int v1, .int v3, .int v5, .int v7, .int v9, .ref a3] P).bind fun r12 => xI r12 fun v14 P11 =>
  (rS N sc ((a4 + 1))).bind fun v15 =>
  (rS N sc ((a4 + 2))).bind fun v17 =>
  (rS N sc ((a4 + 3))).bind fun v19 =>
  (rS N sc ((a4 + 4))).bind fun v21 =>
  (rS N sc ((a4 + 5))).bind fun v23 =>
  (kO P11 a2 11).bind fun _ =>
  (f_X11_stones n 0 [.ref a2, .int v15, .int v17, .int v19, .int v21, .int v23] P11).bind fun r26 => xI r26 fun v28 P25 =>
  (kO P25 a2 11).bind fun _ =>
  (f_X11_thrown n 0 [.ref a2] P25).bind fun r31 => xI r31 fun v33 P30 =>
  if v33 = v14 then
    if ¬ v14 = 0 then
      rec 2751 [.ref a1, .ref a2, .ref a3, .int a4] P30
    else
      (aJ P30 a3 0).bind fun v35 =>
      if ((lg_cmp v35 ((Int32.toInt64 v28)))) = 0 then
        rec 2751 [.ref a1, .ref a2, .ref a3, .int a4] P30
      else
        some (.inl (some (.int 0)), P30)
  else
    some (.inl (some (.int 0)), P30)
def b_L_law_2130 (n : Nat) (N : Nat) (sc : Nat → Int32) (rec : Nat → List Value → xH → xO) (a1 : Nat) (a2 : Nat) (a3 : Nat) (a4 : Int32) (P : xH) : xO :=
  (rS N sc ((a4 + 1))).bind fun v1 =>
  (rS N sc ((a4 + 2))).bind fun v3 =>
  (f_L_gang n 0 [.ref a1, .int v1, .int v3, .ref a3] P).bind fun r6 => xI r6 fun v8 P5 =>
  (rS N sc ((a4 + 1))).bind fun v9 =>
  (rS N sc ((a4 + 2))).bind fun v11 =>
  (kO P5 a2 11).bind fun _ =>
  (f_X11_gang n 0 [.ref a2, .int v9, .int v11] P5).bind fun r14 => xI r14 fun v16 P13 =>
  (kO P13 a2 11).bind fun _ =>
  (f_X11_thrown n 0 [.ref a2] P13).bind fun r19 => xI r19 fun v21 P18 =>
  if v21 = v8 then
    if ¬ v8 = 0 then
      rec 2751 [.ref a1, .ref a2, .ref a3, .int a4] P18
    else
      (aJ P18 a3 0).bind fun v23 =>
      if ((lg_cmp v23 ((Int32.toInt64 v16)))) = 0 then
        rec 2751 [.ref a1, .ref a2, .ref a3, .int a4] P18
      else
        some (.inl (some (.int 0)), P18)
  else
    some (.inl (some (.int 0)), P18)
def b_L_law_2198 (n : Nat) (N : Nat) (sc : Nat → Int32) (rec : Nat → List Value → xH → xO) (a1 : Nat) (a2 : Nat) (a3 : Nat) (a4 : Int32) (P : xH) : xO :=
  (rS N sc ((a4 + 1))).bind fun v1 =>
  (rS N sc ((a4 + 2))).bind fun v3 =>
  (f_L_saved n 0 [.ref a1, .int v1, .int v3, .ref a3] P).bind fun r6 => xI r6 fun v8 P5 =>
  (rS N sc ((a4 + 1))).bind fun v9 =>
  (rS N sc ((a4 + 2))).bind fun v11 =>
  (kO P5 a2 11).bind fun _ =>
  (f_X11_saved n 0 [.ref a2, .int v9, .int v11] P5).bind fun r14 => xI r14 fun v16 P13 =>
  (kO P13 a2 11).bind fun _ =>
  (f_X11_thrown n 0 [.ref a2] P13).bind fun r19 => xI r19 fun v21 P18 =>
  if v21 = v8 then
    if ¬ v8 = 0 then
      rec 2751 [.ref a1, .ref a2, .ref a3, .int a4] P18
    else
      (aJ P18 a3 0).bind fun v23 =>
      if ((lg_cmp v23 ((Int32.toInt64 v16)))) = 0 then
        rec 2751 [.ref a1, .ref a2, .ref a3, .int a4] P18
      else
        some (.inl (some (.int 0)), P18)
  else
    some (.inl (some (.int 0)), P18)
def b_L_law_2266 (n : Nat) (N : Nat) (sc : Nat → Int32) (rec : Nat → List Value → xH → xO) (a1 : Nat) (a2 : Nat) (a3 : Nat) (a4 : Int32) (P : xH) : xO :=
  (rS N sc ((a4 + 1))).bind fun v1 =>
  (f_L_send n 0 [.ref a1, .int v1, .ref a3] P).bind fun r4 => xI r4 fun v6 P3 =>
  (rS N sc ((a4 + 1))).bind fun v7 =>
  (kO P3 a2 11).bind fun _ =>
  (f_X11_send n 0 [.ref a2, .int v7] P3).bind fun r10 => xI r10 fun v12 P9 =>
  (kO P9 a2 11).bind fun _ =>
  (f_X11_thrown n 0 [.ref a2] P9).bind fun r15 => xI r15 fun v17 P14 =>
  if v17 = v6 then
    if ¬ v6 = 0 then
      rec 2751 [.ref a1, .ref a2, .ref a3, .int a4] P14
    else
      (aJ P14 a3 0).bind fun v19 =>
      if ((lg_cmp v19 ((Int32.toInt64 v12)))) = 0 then
        rec 2751 [.ref a1, .ref a2, .ref a3, .int a4] P14
      else
        some (.inl (some (.int 0)), P14)
  else
    some (.inl (some (.int 0)), P14)
def b_L_law_2322 (n : Nat) (N : Nat) (sc : Nat → Int32) (rec : Nat → List Value → xH → xO) (a1 : Nat) (a2 : Nat) (a3 : Nat) (a4 : Int32) (P : xH) : xO :=
  (rS N sc ((a4 + 1))).bind fun v1 =>
  (rS N sc ((a4 + 2))).bind fun v3 =>
  if v3 = 0 then
    rec 2343 [.ref a1, .ref a2, .ref a3, .int a4, .ref a1, .int v1, .int 0] P
  else
    rec 2343 [.ref a1, .ref a2, .ref a3, .int a4, .ref a1, .int v1, .int 1] P
def b_L_law_2343 (n : Nat) (N : Nat) (sc : Nat → Int32) (rec : Nat → List Value → xH → xO) (a1 : Nat) (a2 : Nat) (a3 : Nat) (a4 : Int32) (s0 : Nat) (s1 : Int32) (s2 : Int32) (P : xH) : xO :=
  (f_L_hide n 0 [.ref s0, .int s1, .int s2, .ref a3] P).bind fun r2 => xI r2 fun v4 P1 =>
  (rS N sc ((a4 + 1))).bind fun v5 =>
  (rS N sc ((a4 + 2))).bind fun v7 =>
  if v7 = 0 then
    rec 2370 [.ref a1, .ref a2, .ref a3, .int a4, .int v4, .ref a2, .int v5, .int 0] P1
  else
    rec 2370 [.ref a1, .ref a2, .ref a3, .int a4, .int v4, .ref a2, .int v5, .int 1] P1
def b_L_law_2370 (n : Nat) (N : Nat) (sc : Nat → Int32) (rec : Nat → List Value → xH → xO) (a1 : Nat) (a2 : Nat) (a3 : Nat) (a4 : Int32) (a5 : Int32) (s0 : Nat) (s1 : Int32) (s2 : Int32) (P : xH) : xO :=
  (kO P s0 11).bind fun _ =>
  (f_X11_hide n 0 [.ref s0, .int s1, .int s2] P).bind fun r2 => xI r2 fun v4 P1 =>
  (kO P1 a2 11).bind fun _ =>
  (f_X11_thrown n 0 [.ref a2] P1).bind fun r7 => xI r7 fun v9 P6 =>
  if v9 = a5 then
    if ¬ a5 = 0 then
      rec 2751 [.ref a1, .ref a2, .ref a3, .int a4] P6
    else
      (aJ P6 a3 0).bind fun v11 =>
      if v4 = 0 then
        rec 2404 [.ref a1, .ref a2, .ref a3, .int a4, .int a5, .int v4, .long v11, .long 0] P6
      else
        rec 2404 [.ref a1, .ref a2, .ref a3, .int a4, .int a5, .int v4, .long v11, .long 1] P6
  else
    some (.inl (some (.int 0)), P6)
def b_L_law_2404 (n : Nat) (N : Nat) (sc : Nat → Int32) (rec : Nat → List Value → xH → xO) (a1 : Nat) (a2 : Nat) (a3 : Nat) (a4 : Int32) (a5 : Int32) (a6 : Int32) (s0 : Int64) (s1 : Int64) (P : xH) : xO :=
  if ((lg_cmp s0 s1)) = 0 then
    rec 2751 [.ref a1, .ref a2, .ref a3, .int a4] P
  else
    some (.inl (some (.int 0)), P)
def b_L_law_2413 (n : Nat) (N : Nat) (sc : Nat → Int32) (rec : Nat → List Value → xH → xO) (a1 : Nat) (a2 : Nat) (a3 : Nat) (a4 : Int32) (P : xH) : xO :=
  (rS N sc ((a4 + 1))).bind fun v1 =>
  (rS N sc ((a4 + 2))).bind fun v3 =>
  if v3 = 0 then
    rec 2434 [.ref a1, .ref a2, .ref a3, .int a4, .ref a1, .int v1, .int 0] P
  else
    rec 2434 [.ref a1, .ref a2, .ref a3, .int a4, .ref a1, .int v1, .int 1] P
def b_L_law_2434 (n : Nat) (N : Nat) (sc : Nat → Int32) (rec : Nat → List Value → xH → xO) (a1 : Nat) (a2 : Nat) (a3 : Nat) (a4 : Int32) (s0 : Nat) (s1 : Int32) (s2 : Int32) (P : xH) : xO :=
  (f_L_ask n 0 [.ref s0, .int s1, .int s2, .ref a3] P).bind fun r2 => xI r2 fun v4 P1 =>
  (rS N sc ((a4 + 1))).bind fun v5 =>
  (rS N sc ((a4 + 2))).bind fun v7 =>
  if v7 = 0 then
    rec 2461 [.ref a1, .ref a2, .ref a3, .int a4, .int v4, .ref a2, .int v5, .int 0] P1
  else
    rec 2461 [.ref a1, .ref a2, .ref a3, .int a4, .int v4, .ref a2, .int v5, .int 1] P1
def b_L_law_2461 (n : Nat) (N : Nat) (sc : Nat → Int32) (rec : Nat → List Value → xH → xO) (a1 : Nat) (a2 : Nat) (a3 : Nat) (a4 : Int32) (a5 : Int32) (s0 : Nat) (s1 : Int32) (s2 : Int32) (P : xH) : xO :=
  (kO P s0 11).bind fun _ =>
  (f_X11_ask n 0 [.ref s0, .int s1, .int s2] P).bind fun r2 => xI r2 fun v4 P1 =>
  (kO P1 a2 11).bind fun _ =>
  (f_X11_thrown n 0 [.ref a2] P1).bind fun r7 => xI r7 fun v9 P6 =>
  if v9 = a5 then
    if ¬ a5 = 0 then
      rec 2751 [.ref a1, .ref a2, .ref a3, .int a4] P6
    else
      (aJ P6 a3 0).bind fun v11 =>
      if ((lg_cmp v11 ((Int32.toInt64 v4)))) = 0 then
        rec 2751 [.ref a1, .ref a2, .ref a3, .int a4] P6
      else
        some (.inl (some (.int 0)), P6)
  else
    some (.inl (some (.int 0)), P6)
def b_L_law_2497 (n : Nat) (N : Nat) (sc : Nat → Int32) (rec : Nat → List Value → xH → xO) (a1 : Nat) (a2 : Nat) (a3 : Nat) (a4 : Int32) (P : xH) : xO :=
  (rS N sc ((a4 + 1))).bind fun v1 =>
  (rS N sc ((a4 + 2))).bind fun v3 =>
  (f_L_far n 0 [.ref a1, .int v1, .int v3, .ref a3] P).bind fun r6 => xI r6 fun v8 P5 =>
  (rS N sc ((a4 + 1))).bind fun v9 =>
  (rS N sc ((a4 + 2))).bind fun v11 =>
  (kO P5 a2 11).bind fun _ =>
  (f_X11_far n 0 [.ref a2, .int v9, .int v11] P5).bind fun r14 => xI r14 fun v16 P13 =>
  (kO P13 a2 11).bind fun _ =>
  (f_X11_thrown n 0 [.ref a2] P13).bind fun r19 => xI r19 fun v21 P18 =>
  if v21 = v8 then
    if ¬ v8 = 0 then
      rec 2751 [.ref a1, .ref a2, .ref a3, .int a4] P18
    else
      (aJ P18 a3 0).bind fun v23 =>
      if ((lg_cmp v23 ((Int32.toInt64 v16)))) = 0 then
        rec 2751 [.ref a1, .ref a2, .ref a3, .int a4] P18
      else
        some (.inl (some (.int 0)), P18)
  else
    some (.inl (some (.int 0)), P18)
def b_L_law_2565 (n : Nat) (N : Nat) (sc : Nat → Int32) (rec : Nat → List Value → xH → xO) (a1 : Nat) (a2 : Nat) (a3 : Nat) (a4 : Int32) (P : xH) : xO :=
  (rS N sc ((a4 + 1))).bind fun v1 =>
  (f_L_would n 0 [.ref a1, .int v1, .ref a3] P).bind fun r4 => xI r4 fun v6 P3 =>
  (rS N sc ((a4 + 1))).bind fun v7 =>
  (kO P3 a2 11).bind fun _ =>
  (f_X11_would n 0 [.ref a2, .int v7] P3).bind fun r10 => xI r10 fun v12 P9 =>
  (kO P9 a2 11).bind fun _ =>
  (f_X11_thrown n 0 [.ref a2] P9).bind fun r15 => xI r15 fun v17 P14 =>
  if v17 = v6 then
    if ¬ v6 = 0 then
      rec 2751 [.ref a1, .ref a2, .ref a3, .int a4] P14
    else
      (aJ P14 a3 0).bind fun v19 =>
      if ((lg_cmp v19 ((Int32.toInt64 v12)))) = 0 then
        rec 2751 [.ref a1, .ref a2, .ref a3, .int a4] P14
      else
        some (.inl (some (.int 0)), P14)
  else
    some (.inl (some (.int 0)), P14)
def b_L_law_2621 (n : Nat) (N : Nat) (sc : Nat → Int32) (rec : Nat → List Value → xH → xO) (a1 : Nat) (a2 : Nat) (a3 : Nat) (a4 : Int32) (P : xH) : xO :=
  (rS N sc ((a4 + 1))).bind fun v1 =>
  (rS N sc ((a4 + 2))).bind fun v3 =>
  (f_L_tear n 0 [.ref a1, .int v1, .int v3, .ref a3] P).bind fun r6 => xI r6 fun v8 P5 =>
  (rS N sc ((a4 + 1))).bind fun v9 =>
  (rS N sc ((a4 + 2))).bind fun v11 =>
  (kO P5 a2 11).bind fun _ =>
  (f_X11_tear n 0 [.ref a2, .int v9, .int v11] P5).bind fun r14 => xI r14 fun v16 P13 =>
  (kO P13 a2 11).bind fun _ =>
  (f_X11_thrown n 0 [.ref a2] P13).bind fun r19 => xI r19 fun v21 P18 =>
  if v21 = v8 then
    if ¬ v8 = 0 then
      rec 2751 [.ref a1, .ref a2, .ref a3, .int a4] P18
    else
      (aJ P18 a3 0).bind fun v23 =>
      if ((lg_cmp v23 ((Int32.toInt64 v16)))) = 0 then
        rec 2751 [.ref a1, .ref a2, .ref a3, .int a4] P18
      else
        some (.inl (some (.int 0)), P18)
  else
    some (.inl (some (.int 0)), P18)
def b_L_law_2689 (n : Nat) (N : Nat) (sc : Nat → Int32) (rec : Nat → List Value → xH → xO) (a1 : Nat) (a2 : Nat) (a3 : Nat) (a4 : Int32) (P : xH) : xO :=
  (kO P a1 10).bind fun _ =>
  (f_X10_check n 0 [.ref a1] P).bind fun r2 => xI r2 fun v4 P1 =>
  (kO P1 a2 11).bind fun _ =>
  (f_X11_check n 0 [.ref a2] P1).bind fun r7 => xI r7 fun v9 P6 =>
  if v4 = v9 then
    rec 2751 [.ref a1, .ref a2, .ref a3, .int a4] P6
  else
    some (.inl (some (.int 0)), P6)
def b_L_law_2702 (n : Nat) (N : Nat) (sc : Nat → Int32) (rec : Nat → List Value → xH → xO) (a1 : Nat) (a2 : Nat) (a3 : Nat) (a4 : Int32) (P : xH) : xO :=
  (kO P a1 10).bind fun _ =>
  (f_X10_image n 0 [.ref a1] P).bind fun r2 => xU r2 fun P1 =>
  (kO P1 a2 11).bind fun _ =>
  (f_X11_image n 0 [.ref a2] P1).bind fun r6 => xU r6 fun P5 =>
  rec 2751 [.ref a1, .ref a2, .ref a3, .int a4] P5
def b_L_law_2713 (n : Nat) (N : Nat) (sc : Nat → Int32) (rec : Nat → List Value → xH → xO) (a1 : Nat) (a2 : Nat) (a3 : Nat) (a4 : Int32) (P : xH) : xO :=
  (kO P a1 10).bind fun _ =>
  (f_X10_back n 0 [.ref a1] P).bind fun r2 => xI r2 fun v4 P1 =>
  (kO P1 a2 11).bind fun _ =>
  (f_X11_back n 0 [.ref a2] P1).bind fun r7 => xI r7 fun v9 P6 =>
  if v4 = v9 then
    rec 2751 [.ref a1, .ref a2, .ref a3, .int a4] P6
  else
    some (.inl (some (.int 0)), P6)
def b_L_law_2726 (n : Nat) (N : Nat) (sc : Nat → Int32) (rec : Nat → List Value → xH → xO) (a1 : Nat) (a2 : Nat) (a3 : Nat) (a4 : Int32) (P : xH) : xO :=
  (rS N sc ((a4 + 1))).bind fun v1 =>
  (kO P a1 10).bind fun _ =>
  (f_X10_count n 0 [.ref a1, .int v1] P).bind fun r4 => xI r4 fun v6 P3 =>
  (rS N sc ((a4 + 1))).bind fun v8 =>
  (kO P3 a2 11).bind fun _ =>
  (f_X11_count n 0 [.ref a2, .int v8] P3).bind fun r11 => xI r11 fun v13 P10 =>
  if v6 = v13 then
    rec 2751 [.ref a1, .ref a2, .ref a3, .int a4] P10
  else
    some (.inl (some (.int 0)), P10)
def b_L_law_2751 (n : Nat) (N : Nat) (sc : Nat → Int32) (rec : Nat → List Value → xH → xO) (a1 : Nat) (a2 : Nat) (a3 : Nat) (a4 : Int32) (P : xH) : xO :=
  rec 23 [.ref a1, .ref a2, .ref a3, .int ((a4 + 8))] P
def lay_L_law (pc : Nat) (env : List Value) : Option (xL × List Value) :=
  if pc = 0 then (match env with | [] => some ([some (.retAddr 0), none, none, none, none, none, none], []) | _ => none) else
  if pc = 23 then (match env with | [a1, a2, a3, a4] => some ([some (.retAddr 0), some a1, some a2, some a3, some a4, none, none], []) | _ => none) else
  if pc = 216 then (match env with | [a1, a2, a3, a4] => some ([some (.retAddr 0), some a1, some a2, some a3, some a4, none, none], []) | _ => none) else
  if pc = 289 then (match env with | [a1, a2, a3, a4] => some ([some (.retAddr 0), some a1, some a2, some a3, some a4, none, none], []) | _ => none) else
  if pc = 314 then (match env with | [a1, a2, a3, a4] => some ([some (.retAddr 0), some a1, some a2, some a3, some a4, none, none], []) | _ => none) else
  if pc = 406 then (match env with | [a1, a2, a3, a4] => some ([some (.retAddr 0), some a1, some a2, some a3, some a4, none, none], []) | _ => none) else
  if pc = 498 then (match env with | [a1, a2, a3, a4] => some ([some (.retAddr 0), some a1, some a2, some a3, some a4, none, none], []) | _ => none) else
  if pc = 542 then (match env with | [a1, a2, a3, a4] => some ([some (.retAddr 0), some a1, some a2, some a3, some a4, none, none], []) | _ => none) else
  if pc = 555 then (match env with | [a1, a2, a3, a4] => some ([some (.retAddr 0), some a1, some a2, some a3, some a4, none, none], []) | _ => none) else
  if pc = 687 then (match env with | [a1, a2, a3, a4] => some ([some (.retAddr 0), some a1, some a2, some a3, some a4, none, none], []) | _ => none) else
  if pc = 767 then (match env with | [a1, a2, a3, a4] => some ([some (.retAddr 0), some a1, some a2, some a3, some a4, none, none], []) | _ => none) else
  if pc = 823 then (match env with | [a1, a2, a3, a4] => some ([some (.retAddr 0), some a1, some a2, some a3, some a4, none, none], []) | _ => none) else
  if pc = 891 then (match env with | [a1, a2, a3, a4] => some ([some (.retAddr 0), some a1, some a2, some a3, some a4, none, none], []) | _ => none) else
  if pc = 971 then (match env with | [a1, a2, a3, a4] => some ([some (.retAddr 0), some a1, some a2, some a3, some a4, none, none], []) | _ => none) else
  if pc = 1039 then (match env with | [a1, a2, a3, a4] => some ([some (.retAddr 0), some a1, some a2, some a3, some a4, none, none], []) | _ => none) else
  if pc = 1095 then (match env with | [a1, a2, a3, a4] => some ([some (.retAddr 0), some a1, some a2, some a3, some a4, none, none], []) | _ => none) else
  if pc = 1163 then (match env with | [a1, a2, a3, a4] => some ([some (.retAddr 0), some a1, some a2, some a3, some a4, none, none], []) | _ => none) else
  if pc = 1219 then (match env with | [a1, a2, a3, a4] => some ([some (.retAddr 0), some a1, some a2, some a3, some a4, none, none], []) | _ => none) else
  if pc = 1275 then (match env with | [a1, a2, a3, a4] => some ([some (.retAddr 0), some a1, some a2, some a3, some a4, none, none], []) | _ => none) else
  if pc = 1302 then (match env with | [a1, a2, a3, a4, s0, s1, s2, s3] => some ([some (.retAddr 0), some a1, some a2, some a3, some a4, none, none], [s3, s2, s1, s0]) | _ => none) else
  if pc = 1335 then (match env with | [a1, a2, a3, a4, a5, s0, s1, s2, s3] => some ([some (.retAddr 0), some a1, some a2, some a3, some a4, some a5, none], [s3, s2, s1, s0]) | _ => none) else
  if pc = 1371 then (match env with | [a1, a2, a3, a4] => some ([some (.retAddr 0), some a1, some a2, some a3, some a4, none, none], []) | _ => none) else
  if pc = 1407 then (match env with | [a1, a2, a3, a4] => some ([some (.retAddr 0), some a1, some a2, some a3, some a4, none, none], []) | _ => none) else
  if pc = 1487 then (match env with | [a1, a2, a3, a4] => some ([some (.retAddr 0), some a1, some a2, some a3, some a4, none, none], []) | _ => none) else
  if pc = 1514 then (match env with | [a1, a2, a3, a4, s0, s1, s2, s3] => some ([some (.retAddr 0), some a1, some a2, some a3, some a4, none, none], [s3, s2, s1, s0]) | _ => none) else
  if pc = 1547 then (match env with | [a1, a2, a3, a4, a5, s0, s1, s2, s3] => some ([some (.retAddr 0), some a1, some a2, some a3, some a4, some a5, none], [s3, s2, s1, s0]) | _ => none) else
  if pc = 1583 then (match env with | [a1, a2, a3, a4] => some ([some (.retAddr 0), some a1, some a2, some a3, some a4, none, none], []) | _ => none) else
  if pc = 1604 then (match env with | [a1, a2, a3, a4, s0, s1, s2] => some ([some (.retAddr 0), some a1, some a2, some a3, some a4, none, none], [s2, s1, s0]) | _ => none) else
  if pc = 1631 then (match env with | [a1, a2, a3, a4, a5, s0, s1, s2] => some ([some (.retAddr 0), some a1, some a2, some a3, some a4, some a5, none], [s2, s1, s0]) | _ => none) else
  if pc = 1665 then (match env with | [a1, a2, a3, a4, a5, a6, s0, s1] => some ([some (.retAddr 0), some a1, some a2, some a3, some a4, some a5, some a6], [s1, s0]) | _ => none) else
  if pc = 1674 then (match env with | [a1, a2, a3, a4] => some ([some (.retAddr 0), some a1, some a2, some a3, some a4, none, none], []) | _ => none) else
  if pc = 1730 then (match env with | [a1, a2, a3, a4] => some ([some (.retAddr 0), some a1, some a2, some a3, some a4, none, none], []) | _ => none) else
  if pc = 1798 then (match env with | [a1, a2, a3, a4] => some ([some (.retAddr 0), some a1, some a2, some a3, some a4, none, none], []) | _ => none) else
  if pc = 1878 then (match env with | [a1, a2, a3, a4] => some ([some (.retAddr 0), some a1, some a2, some a3, some a4, none, none], []) | _ => none) else
  if pc = 1914 then (match env with | [a1, a2, a3, a4] => some ([some (.retAddr 0), some a1, some a2, some a3, some a4, none, none], []) | _ => none) else
  if pc = 1970 then (match env with | [a1, a2, a3, a4] => some ([some (.retAddr 0), some a1, some a2, some a3, some a4, none, none], []) | _ => none) else
  if pc = 2026 then (match env with | [a1, a2, a3, a4] => some ([some (.retAddr 0), some a1, some a2, some a3, some a4, none, none], []) | _ => none) else
  if pc = 2130 then (match env with | [a1, a2, a3, a4] => some ([some (.retAddr 0), some a1, some a2, some a3, some a4, none, none], []) | _ => none) else
  if pc = 2198 then (match env with | [a1, a2, a3, a4] => some ([some (.retAddr 0), some a1, some a2, some a3, some a4, none, none], []) | _ => none) else
  if pc = 2266 then (match env with | [a1, a2, a3, a4] => some ([some (.retAddr 0), some a1, some a2, some a3, some a4, none, none], []) | _ => none) else
  if pc = 2322 then (match env with | [a1, a2, a3, a4] => some ([some (.retAddr 0), some a1, some a2, some a3, some a4, none, none], []) | _ => none) else
  if pc = 2343 then (match env with | [a1, a2, a3, a4, s0, s1, s2] => some ([some (.retAddr 0), some a1, some a2, some a3, some a4, none, none], [s2, s1, s0]) | _ => none) else
  if pc = 2370 then (match env with | [a1, a2, a3, a4, a5, s0, s1, s2] => some ([some (.retAddr 0), some a1, some a2, some a3, some a4, some a5, none], [s2, s1, s0]) | _ => none) else
  if pc = 2404 then (match env with | [a1, a2, a3, a4, a5, a6, s0, s1] => some ([some (.retAddr 0), some a1, some a2, some a3, some a4, some a5, some a6], [s1, s0]) | _ => none) else
  if pc = 2413 then (match env with | [a1, a2, a3, a4] => some ([some (.retAddr 0), some a1, some a2, some a3, some a4, none, none], []) | _ => none) else
  if pc = 2434 then (match env with | [a1, a2, a3, a4, s0, s1, s2] => some ([some (.retAddr 0), some a1, some a2, some a3, some a4, none, none], [s2, s1, s0]) | _ => none) else
  if pc = 2461 then (match env with | [a1, a2, a3, a4, a5, s0, s1, s2] => some ([some (.retAddr 0), some a1, some a2, some a3, some a4, some a5, none], [s2, s1, s0]) | _ => none) else
  if pc = 2497 then (match env with | [a1, a2, a3, a4] => some ([some (.retAddr 0), some a1, some a2, some a3, some a4, none, none], []) | _ => none) else
  if pc = 2565 then (match env with | [a1, a2, a3, a4] => some ([some (.retAddr 0), some a1, some a2, some a3, some a4, none, none], []) | _ => none) else
  if pc = 2621 then (match env with | [a1, a2, a3, a4] => some ([some (.retAddr 0), some a1, some a2, some a3, some a4, none, none], []) | _ => none) else
  if pc = 2689 then (match env with | [a1, a2, a3, a4] => some ([some (.retAddr 0), some a1, some a2, some a3, some a4, none, none], []) | _ => none) else
  if pc = 2702 then (match env with | [a1, a2, a3, a4] => some ([some (.retAddr 0), some a1, some a2, some a3, some a4, none, none], []) | _ => none) else
  if pc = 2713 then (match env with | [a1, a2, a3, a4] => some ([some (.retAddr 0), some a1, some a2, some a3, some a4, none, none], []) | _ => none) else
  if pc = 2726 then (match env with | [a1, a2, a3, a4] => some ([some (.retAddr 0), some a1, some a2, some a3, some a4, none, none], []) | _ => none) else
  if pc = 2751 then (match env with | [a1, a2, a3, a4] => some ([some (.retAddr 0), some a1, some a2, some a3, some a4, none, none], []) | _ => none) else
  none
def f_L_law (N : Nat) (sc : Nat → Int32) : Nat → Nat → List Value → xH → xO
  | 0 => fun _ _ _ => none
  | n + 1 => fun pc env P =>
    if pc = 0 then (match env with | [] => b_L_law_0 n N sc (f_L_law N sc n)  P | _ => none) else
    if pc = 23 then (match env with | [.ref a1, .ref a2, .ref a3, .int a4] => b_L_law_23 n N sc (f_L_law N sc n) a1 a2 a3 a4 P | _ => none) else
    if pc = 216 then (match env with | [.ref a1, .ref a2, .ref a3, .int a4] => b_L_law_216 n N sc (f_L_law N sc n) a1 a2 a3 a4 P | _ => none) else
    if pc = 289 then (match env with | [.ref a1, .ref a2, .ref a3, .int a4] => b_L_law_289 n N sc (f_L_law N sc n) a1 a2 a3 a4 P | _ => none) else
    if pc = 314 then (match env with | [.ref a1, .ref a2, .ref a3, .int a4] => b_L_law_314 n N sc (f_L_law N sc n) a1 a2 a3 a4 P | _ => none) else
    if pc = 406 then (match env with | [.ref a1, .ref a2, .ref a3, .int a4] => b_L_law_406 n N sc (f_L_law N sc n) a1 a2 a3 a4 P | _ => none) else
    if pc = 498 then (match env with | [.ref a1, .ref a2, .ref a3, .int a4] => b_L_law_498 n N sc (f_L_law N sc n) a1 a2 a3 a4 P | _ => none) else
    if pc = 542 then (match env with | [.ref a1, .ref a2, .ref a3, .int a4] => b_L_law_542 n N sc (f_L_law N sc n) a1 a2 a3 a4 P | _ => none) else
    if pc = 555 then (match env with | [.ref a1, .ref a2, .ref a3, .int a4] => b_L_law_555 n N sc (f_L_law N sc n) a1 a2 a3 a4 P | _ => none) else
    if pc = 687 then (match env with | [.ref a1, .ref a2, .ref a3, .int a4] => b_L_law_687 n N sc (f_L_law N sc n) a1 a2 a3 a4 P | _ => none) else
    if pc = 767 then (match env with | [.ref a1, .ref a2, .ref a3, .int a4] => b_L_law_767 n N sc (f_L_law N sc n) a1 a2 a3 a4 P | _ => none) else
    if pc = 823 then (match env with | [.ref a1, .ref a2, .ref a3, .int a4] => b_L_law_823 n N sc (f_L_law N sc n) a1 a2 a3 a4 P | _ => none) else
    if pc = 891 then (match env with | [.ref a1, .ref a2, .ref a3, .int a4] => b_L_law_891 n N sc (f_L_law N sc n) a1 a2 a3 a4 P | _ => none) else
    if pc = 971 then (match env with | [.ref a1, .ref a2, .ref a3, .int a4] => b_L_law_971 n N sc (f_L_law N sc n) a1 a2 a3 a4 P | _ => none) else
    if pc = 1039 then (match env with | [.ref a1, .ref a2, .ref a3, .int a4] => b_L_law_1039 n N sc (f_L_law N sc n) a1 a2 a3 a4 P | _ => none) else
    if pc = 1095 then (match env with | [.ref a1, .ref a2, .ref a3, .int a4] => b_L_law_1095 n N sc (f_L_law N sc n) a1 a2 a3 a4 P | _ => none) else
    if pc = 1163 then (match env with | [.ref a1, .ref a2, .ref a3, .int a4] => b_L_law_1163 n N sc (f_L_law N sc n) a1 a2 a3 a4 P | _ => none) else
    if pc = 1219 then (match env with | [.ref a1, .ref a2, .ref a3, .int a4] => b_L_law_1219 n N sc (f_L_law N sc n) a1 a2 a3 a4 P | _ => none) else
    if pc = 1275 then (match env with | [.ref a1, .ref a2, .ref a3, .int a4] => b_L_law_1275 n N sc (f_L_law N sc n) a1 a2 a3 a4 P | _ => none) else
    if pc = 1302 then (match env with | [.ref a1, .ref a2, .ref a3, .int a4, .ref s0, .int s1, .int s2, .int s3] => b_L_law_1302 n N sc (f_L_law N sc n) a1 a2 a3 a4 s0 s1 s2 s3 P | _ => none) else
    if pc = 1335 then (match env with | [.ref a1, .ref a2, .ref a3, .int a4, .int a5, .ref s0, .int s1, .int s2, .int s3] => b_L_law_1335 n N sc (f_L_law N sc n) a1 a2 a3 a4 a5 s0 s1 s2 s3 P | _ => none) else
    if pc = 1371 then (match env with | [.ref a1, .ref a2, .ref a3, .int a4] => b_L_law_1371 n N sc (f_L_law N sc n) a1 a2 a3 a4 P | _ => none) else
    if pc = 1407 then (match env with | [.ref a1, .ref a2, .ref a3, .int a4] => b_L_law_1407 n N sc (f_L_law N sc n) a1 a2 a3 a4 P | _ => none) else
    if pc = 1487 then (match env with | [.ref a1, .ref a2, .ref a3, .int a4] => b_L_law_1487 n N sc (f_L_law N sc n) a1 a2 a3 a4 P | _ => none) else
    if pc = 1514 then (match env with | [.ref a1, .ref a2, .ref a3, .int a4, .ref s0, .int s1, .int s2, .int s3] => b_L_law_1514 n N sc (f_L_law N sc n) a1 a2 a3 a4 s0 s1 s2 s3 P | _ => none) else
    if pc = 1547 then (match env with | [.ref a1, .ref a2, .ref a3, .int a4, .int a5, .ref s0, .int s1, .int s2, .int s3] => b_L_law_1547 n N sc (f_L_law N sc n) a1 a2 a3 a4 a5 s0 s1 s2 s3 P | _ => none) else
    if pc = 1583 then (match env with | [.ref a1, .ref a2, .ref a3, .int a4] => b_L_law_1583 n N sc (f_L_law N sc n) a1 a2 a3 a4 P | _ => none) else
    if pc = 1604 then (match env with | [.ref a1, .ref a2, .ref a3, .int a4, .ref s0, .int s1, .int s2] => b_L_law_1604 n N sc (f_L_law N sc n) a1 a2 a3 a4 s0 s1 s2 P | _ => none) else
    if pc = 1631 then (match env with | [.ref a1, .ref a2, .ref a3, .int a4, .int a5, .ref s0, .int s1, .int s2] => b_L_law_1631 n N sc (f_L_law N sc n) a1 a2 a3 a4 a5 s0 s1 s2 P | _ => none) else
    if pc = 1665 then (match env with | [.ref a1, .ref a2, .ref a3, .int a4, .int a5, .int a6, .long s0, .long s1] => b_L_law_1665 n N sc (f_L_law N sc n) a1 a2 a3 a4 a5 a6 s0 s1 P | _ => none) else
    if pc = 1674 then (match env with | [.ref a1, .ref a2, .ref a3, .int a4] => b_L_law_1674 n N sc (f_L_law N sc n) a1 a2 a3 a4 P | _ => none) else
    if pc = 1730 then (match env with | [.ref a1, .ref a2, .ref a3, .int a4] => b_L_law_1730 n N sc (f_L_law N sc n) a1 a2 a3 a4 P | _ => none) else
    if pc = 1798 then (match env with | [.ref a1, .ref a2, .ref a3, .int a4] => b_L_law_1798 n N sc (f_L_law N sc n) a1 a2 a3 a4 P | _ => none) else
    if pc = 1878 then (match env with | [.ref a1, .ref a2, .ref a3, .int a4] => b_L_law_1878 n N sc (f_L_law N sc n) a1 a2 a3 a4 P | _ => none) else
    if pc = 1914 then (match env with | [.ref a1, .ref a2, .ref a3, .int a4] => b_L_law_1914 n N sc (f_L_law N sc n) a1 a2 a3 a4 P | _ => none) else
    if pc = 1970 then (match env with | [.ref a1, .ref a2, .ref a3, .int a4] => b_L_law_1970 n N sc (f_L_law N sc n) a1 a2 a3 a4 P | _ => none) else
    if pc = 2026 then (match env with | [.ref a1, .ref a2, .ref a3, .int a4] => b_L_law_2026 n N sc (f_L_law N sc n) a1 a2 a3 a4 P | _ => none) else
    if pc = 2130 then (match env with | [.ref a1, .ref a2, .ref a3, .int a4] => b_L_law_2130 n N sc (f_L_law N sc n) a1 a2 a3 a4 P | _ => none) else
    if pc = 2198 then (match env with | [.ref a1, .ref a2, .ref a3, .int a4] => b_L_law_2198 n N sc (f_L_law N sc n) a1 a2 a3 a4 P | _ => none) else
    if pc = 2266 then (match env with | [.ref a1, .ref a2, .ref a3, .int a4] => b_L_law_2266 n N sc (f_L_law N sc n) a1 a2 a3 a4 P | _ => none) else
    if pc = 2322 then (match env with | [.ref a1, .ref a2, .ref a3, .int a4] => b_L_law_2322 n N sc (f_L_law N sc n) a1 a2 a3 a4 P | _ => none) else
    if pc = 2343 then (match env with | [.ref a1, .ref a2, .ref a3, .int a4, .ref s0, .int s1, .int s2] => b_L_law_2343 n N sc (f_L_law N sc n) a1 a2 a3 a4 s0 s1 s2 P | _ => none) else
    if pc = 2370 then (match env with | [.ref a1, .ref a2, .ref a3, .int a4, .int a5, .ref s0, .int s1, .int s2] => b_L_law_2370 n N sc (f_L_law N sc n) a1 a2 a3 a4 a5 s0 s1 s2 P | _ => none) else
    if pc = 2404 then (match env with | [.ref a1, .ref a2, .ref a3, .int a4, .int a5, .int a6, .long s0, .long s1] => b_L_law_2404 n N sc (f_L_law N sc n) a1 a2 a3 a4 a5 a6 s0 s1 P | _ => none) else
    if pc = 2413 then (match env with | [.ref a1, .ref a2, .ref a3, .int a4] => b_L_law_2413 n N sc (f_L_law N sc n) a1 a2 a3 a4 P | _ => none) else
    if pc = 2434 then (match env with | [.ref a1, .ref a2, .ref a3, .int a4, .ref s0, .int s1, .int s2] => b_L_law_2434 n N sc (f_L_law N sc n) a1 a2 a3 a4 s0 s1 s2 P | _ => none) else
    if pc = 2461 then (match env with | [.ref a1, .ref a2, .ref a3, .int a4, .int a5, .ref s0, .int s1, .int s2] => b_L_law_2461 n N sc (f_L_law N sc n) a1 a2 a3 a4 a5 s0 s1 s2 P | _ => none) else
    if pc = 2497 then (match env with | [.ref a1, .ref a2, .ref a3, .int a4] => b_L_law_2497 n N sc (f_L_law N sc n) a1 a2 a3 a4 P | _ => none) else
    if pc = 2565 then (match env with | [.ref a1, .ref a2, .ref a3, .int a4] => b_L_law_2565 n N sc (f_L_law N sc n) a1 a2 a3 a4 P | _ => none) else
    if pc = 2621 then (match env with | [.ref a1, .ref a2, .ref a3, .int a4] => b_L_law_2621 n N sc (f_L_law N sc n) a1 a2 a3 a4 P | _ => none) else
    if pc = 2689 then (match env with | [.ref a1, .ref a2, .ref a3, .int a4] => b_L_law_2689 n N sc (f_L_law N sc n) a1 a2 a3 a4 P | _ => none) else
    if pc = 2702 then (match env with | [.ref a1, .ref a2, .ref a3, .int a4] => b_L_law_2702 n N sc (f_L_law N sc n) a1 a2 a3 a4 P | _ => none) else
    if pc = 2713 then (match env with | [.ref a1, .ref a2, .ref a3, .int a4] => b_L_law_2713 n N sc (f_L_law N sc n) a1 a2 a3 a4 P | _ => none) else
    if pc = 2726 then (match env with | [.ref a1, .ref a2, .ref a3, .int a4] => b_L_law_2726 n N sc (f_L_law N sc n) a1 a2 a3 a4 P | _ => none) else
    if pc = 2751 then (match env with | [.ref a1, .ref a2, .ref a3, .int a4] => b_L_law_2751 n N sc (f_L_law N sc n) a1 a2 a3 a4 P | _ => none) else
    none
set_option maxHeartbeats 2000000 in
set_option maxRecDepth 20000 in
theorem t_L_law_0 {G : xG} {l : Launch} (hl : l.stackTraces = false) {n : Nat} {rec : Nat → List Value → xH → xO} (hrec : ∀ pc env P z, rec pc env P = some z → ∀ L st, lay_L_law pc env = some (L, st) → ∀ Q : xR → xH → Prop, Q z.1 z.2 → Wp G l 45 mL_law pc L st P Q) {P : xH} {z : xR × xH} (h : b_L_law_0 n G.2.2.2.2.1 G.2.2.2.2.2 rec  P = some z) {Q : xR → xH → Prop} (hQ : Q z.1 z.2) : Wp G l 45 mL_law 0 [some (.retAddr 0), none, none, none, none, none, none] [] P Q := by
  unfold b_L_law_0 at h
  obtain ⟨P1, e2, h⟩ := Option.bind_eq_some_iff.mp h
  refine k_nO e2 (by decide) dL_law_0 wk_L_8 wins_X10 wini_X10 xok_10 ?_
  refine x_dup dL_law_3 rfl ?_
  obtain ⟨r4, e5, h⟩ := Option.bind_eq_some_iff.mp h
  replace h := xU_ok h
  obtain ⟨P3, rfl, h⟩ := h
  refine x_callI (c_X10_init hl e5) dL_law_4 cw_X10_init rfl rfl wl_L_129 wi_X10_init rfl (by omega) (by decide) rfl (Nat.le_of_ble_eq_true rfl) (fun i9 P9 hq9 => by cases hq9) (fun v9 P9 hq9 => ?_)
  cases hq9
  refine x_astore_n dL_law_7 (Nat.le_of_ble_eq_true rfl) ?_
  obtain ⟨P6, e7, h⟩ := Option.bind_eq_some_iff.mp h
  refine k_nO e7 (by decide) dL_law_8 wk_L_130 wins_X11 wini_X11 xok_11 ?_
  refine x_dup dL_law_11 rfl ?_
  obtain ⟨r9, e10, h⟩ := Option.bind_eq_some_iff.mp h
  replace h := xU_ok h
  obtain ⟨P8, rfl, h⟩ := h
  refine x_callI (c_X11_init hl e10) dL_law_12 cw_X11_init rfl rfl wl_L_132 wi_X11_init rfl (by omega) (by decide) rfl (Nat.le_of_ble_eq_true rfl) (fun i9 P9 hq9 => by cases hq9) (fun v9 P9 hq9 => ?_)
  cases hq9
  refine x_astore_n dL_law_15 (Nat.le_of_ble_eq_true rfl) ?_
  refine x_iconst 1 dL_law_16 (by decide) ?_
  obtain ⟨P11, e12, h⟩ := Option.bind_eq_some_iff.mp h
  refine k_nJ e12 dL_law_17 ?_
  refine x_astore_n dL_law_19 (Nat.le_of_ble_eq_true rfl) ?_
  refine x_iconst 0 dL_law_20 (by decide) ?_
  refine x_istore dL_law_21 (Nat.le_of_ble_eq_true rfl) ?_
  exact Wp.mask [true, true, true, true, true, false, false] (hrec 23 _ _ _ h _ _ rfl _ hQ)
set_option maxHeartbeats 2000000 in
set_option maxRecDepth 20000 in
theorem t_L_law_23 {G : xG} {l : Launch} (hl : l.stackTraces = false) {n : Nat} {rec : Nat → List Value → xH → xO} (hrec : ∀ pc env P z, rec pc env P = some z → ∀ L st, lay_L_law pc env = some (L, st) → ∀ Q : xR → xH → Prop, Q z.1 z.2 → Wp G l 45 mL_law pc L st P Q) {a1 a2 a3 a4} {P : xH} {z : xR × xH} (h : b_L_law_23 n G.2.2.2.2.1 G.2.2.2.2.2 rec a1 a2 a3 a4 P = some z) {Q : xR → xH → Prop} (hQ : Q z.1 z.2) : Wp G l 45 mL_law 23 [some (.retAddr 0), some (.ref a1), some (.ref a2), some (.ref a3), some (.int a4), none, none] [] P Q := by
  unfold b_L_law_23 at h
  refine x_iload dL_law_23 rfl ?_
  refine x_aload_n (Or.inr ⟨_, rfl⟩) dL_law_25 rfl ?_
  refine x_slen dL_law_26 ?_
  refine x_bipush 8 dL_law_27 (by decide) ?_
  refine x_isub dL_law_29 ?_
  refine x_icmp_gt 2757 dL_law_30 (by decide) (fun q44 => ?_) (fun q44 => ?_)
  · rw [if_pos q44] at h
    refine x_iconst 1 dL_law_2757 (by decide) ?_
    cases h
    exact x_iret .boolean rfl rfl dL_law_2758 hQ
  · rw [if_neg q44] at h
    refine x_aload_n (Or.inr ⟨_, rfl⟩) dL_law_33 rfl ?_
    refine x_iload dL_law_34 rfl ?_
    obtain ⟨v1, e2, h⟩ := Option.bind_eq_some_iff.mp h
    refine k_rS e2 dL_law_36 ?_
    refine x_bipush 63 dL_law_37 (by decide) ?_
    refine x_iand dL_law_39 ?_
    by_cases q3 : Int32.toInt ((v1 &&& 63)) < 0 ∨ 39 < Int32.toInt ((v1 &&& 63))
    · rw [if_pos q3] at h
      refine x_tabOut 2751 dL_law_40 q3 (by decide) ?_
      exact Wp.mask [true, true, true, true, true, false, false] (hrec 2751 _ _ _ h _ _ rfl _ hQ)
    · rw [if_neg q3] at h
      by_cases q4 : ((v1 &&& 63)) = 0
      · rw [if_pos q4] at h
        refine x_tabIn 216 dL_law_40 (fun w9 => q3 (Or.inl w9)) (fun w9 => q3 (Or.inr w9)) (by rw [q4]; rfl) (by decide) ?_
        exact Wp.mask [true, true, true, true, true, false, false] (hrec 216 _ _ _ h _ _ rfl _ hQ)
      · rw [if_neg q4] at h
        by_cases q5 : ((v1 &&& 63)) = 1
        · rw [if_pos q5] at h
          refine x_tabIn 289 dL_law_40 (fun w9 => q3 (Or.inl w9)) (fun w9 => q3 (Or.inr w9)) (by rw [q5]; rfl) (by decide) ?_
          exact Wp.mask [true, true, true, true, true, false, false] (hrec 289 _ _ _ h _ _ rfl _ hQ)
        · rw [if_neg q5] at h
          by_cases q6 : ((v1 &&& 63)) = 2
          · rw [if_pos q6] at h
            refine x_tabIn 314 dL_law_40 (fun w9 => q3 (Or.inl w9)) (fun w9 => q3 (Or.inr w9)) (by rw [q6]; rfl) (by decide) ?_
            exact Wp.mask [true, true, true, true, true, false, false] (hrec 314 _ _ _ h _ _ rfl _ hQ)
          · rw [if_neg q6] at h
            by_cases q7 : ((v1 &&& 63)) = 3
            · rw [if_pos q7] at h
              refine x_tabIn 406 dL_law_40 (fun w9 => q3 (Or.inl w9)) (fun w9 => q3 (Or.inr w9)) (by rw [q7]; rfl) (by decide) ?_
              exact Wp.mask [true, true, true, true, true, false, false] (hrec 406 _ _ _ h _ _ rfl _ hQ)
            · rw [if_neg q7] at h
              by_cases q8 : ((v1 &&& 63)) = 4
              · rw [if_pos q8] at h
                refine x_tabIn 498 dL_law_40 (fun w9 => q3 (Or.inl w9)) (fun w9 => q3 (Or.inr w9)) (by rw [q8]; rfl) (by decide) ?_
                exact Wp.mask [true, true, true, true, true, false, false] (hrec 498 _ _ _ h _ _ rfl _ hQ)
              · rw [if_neg q8] at h
                by_cases q9 : ((v1 &&& 63)) = 5
                · rw [if_pos q9] at h
                  refine x_tabIn 542 dL_law_40 (fun w9 => q3 (Or.inl w9)) (fun w9 => q3 (Or.inr w9)) (by rw [q9]; rfl) (by decide) ?_
                  exact Wp.mask [true, true, true, true, true, false, false] (hrec 542 _ _ _ h _ _ rfl _ hQ)
                · rw [if_neg q9] at h
                  by_cases q10 : ((v1 &&& 63)) = 6
                  · rw [if_pos q10] at h
                    refine x_tabIn 555 dL_law_40 (fun w9 => q3 (Or.inl w9)) (fun w9 => q3 (Or.inr w9)) (by rw [q10]; rfl) (by decide) ?_
                    exact Wp.mask [true, true, true, true, true, false, false] (hrec 555 _ _ _ h _ _ rfl _ hQ)
                  · rw [if_neg q10] at h
                    by_cases q11 : ((v1 &&& 63)) = 7
                    · rw [if_pos q11] at h
                      refine x_tabIn 687 dL_law_40 (fun w9 => q3 (Or.inl w9)) (fun w9 => q3 (Or.inr w9)) (by rw [q11]; rfl) (by decide) ?_
                      exact Wp.mask [true, true, true, true, true, false, false] (hrec 687 _ _ _ h _ _ rfl _ hQ)
                    · rw [if_neg q11] at h
                      by_cases q12 : ((v1 &&& 63)) = 8
                      · rw [if_pos q12] at h
                        refine x_tabIn 767 dL_law_40 (fun w9 => q3 (Or.inl w9)) (fun w9 => q3 (Or.inr w9)) (by rw [q12]; rfl) (by decide) ?_
                        exact Wp.mask [true, true, true, true, true, false, false] (hrec 767 _ _ _ h _ _ rfl _ hQ)
                      · rw [if_neg q12] at h
                        by_cases q13 : ((v1 &&& 63)) = 9
                        · rw [if_pos q13] at h
                          refine x_tabIn 823 dL_law_40 (fun w9 => q3 (Or.inl w9)) (fun w9 => q3 (Or.inr w9)) (by rw [q13]; rfl) (by decide) ?_
                          exact Wp.mask [true, true, true, true, true, false, false] (hrec 823 _ _ _ h _ _ rfl _ hQ)
                        · rw [if_neg q13] at h
                          by_cases q14 : ((v1 &&& 63)) = 10
                          · rw [if_pos q14] at h
                            refine x_tabIn 891 dL_law_40 (fun w9 => q3 (Or.inl w9)) (fun w9 => q3 (Or.inr w9)) (by rw [q14]; rfl) (by decide) ?_
                            exact Wp.mask [true, true, true, true, true, false, false] (hrec 891 _ _ _ h _ _ rfl _ hQ)
                          · rw [if_neg q14] at h
                            by_cases q15 : ((v1 &&& 63)) = 11
                            · rw [if_pos q15] at h
                              refine x_tabIn 971 dL_law_40 (fun w9 => q3 (Or.inl w9)) (fun w9 => q3 (Or.inr w9)) (by rw [q15]; rfl) (by decide) ?_
                              exact Wp.mask [true, true, true, true, true, false, false] (hrec 971 _ _ _ h _ _ rfl _ hQ)
                            · rw [if_neg q15] at h
                              by_cases q16 : ((v1 &&& 63)) = 12
                              · rw [if_pos q16] at h
                                refine x_tabIn 1039 dL_law_40 (fun w9 => q3 (Or.inl w9)) (fun w9 => q3 (Or.inr w9)) (by rw [q16]; rfl) (by decide) ?_
                                exact Wp.mask [true, true, true, true, true, false, false] (hrec 1039 _ _ _ h _ _ rfl _ hQ)
                              · rw [if_neg q16] at h
                                by_cases q17 : ((v1 &&& 63)) = 13
                                · rw [if_pos q17] at h
                                  refine x_tabIn 1095 dL_law_40 (fun w9 => q3 (Or.inl w9)) (fun w9 => q3 (Or.inr w9)) (by rw [q17]; rfl) (by decide) ?_
                                  exact Wp.mask [true, true, true, true, true, false, false] (hrec 1095 _ _ _ h _ _ rfl _ hQ)
                                · rw [if_neg q17] at h
                                  by_cases q18 : ((v1 &&& 63)) = 14
                                  · rw [if_pos q18] at h
                                    refine x_tabIn 1163 dL_law_40 (fun w9 => q3 (Or.inl w9)) (fun w9 => q3 (Or.inr w9)) (by rw [q18]; rfl) (by decide) ?_
                                    exact Wp.mask [true, true, true, true, true, false, false] (hrec 1163 _ _ _ h _ _ rfl _ hQ)
                                  · rw [if_neg q18] at h
                                    by_cases q19 : ((v1 &&& 63)) = 15
                                    · rw [if_pos q19] at h
                                      refine x_tabIn 1219 dL_law_40 (fun w9 => q3 (Or.inl w9)) (fun w9 => q3 (Or.inr w9)) (by rw [q19]; rfl) (by decide) ?_
                                      exact Wp.mask [true, true, true, true, true, false, false] (hrec 1219 _ _ _ h _ _ rfl _ hQ)
                                    · rw [if_neg q19] at h
                                      by_cases q20 : ((v1 &&& 63)) = 16
                                      · rw [if_pos q20] at h
                                        refine x_tabIn 1275 dL_law_40 (fun w9 => q3 (Or.inl w9)) (fun w9 => q3 (Or.inr w9)) (by rw [q20]; rfl) (by decide) ?_
                                        exact Wp.mask [true, true, true, true, true, false, false] (hrec 1275 _ _ _ h _ _ rfl _ hQ)
                                      · rw [if_neg q20] at h
                                        by_cases q21 : ((v1 &&& 63)) = 17
                                        · rw [if_pos q21] at h
                                          refine x_tabIn 1371 dL_law_40 (fun w9 => q3 (Or.inl w9)) (fun w9 => q3 (Or.inr w9)) (by rw [q21]; rfl) (by decide) ?_
                                          exact Wp.mask [true, true, true, true, true, false, false] (hrec 1371 _ _ _ h _ _ rfl _ hQ)
                                        · rw [if_neg q21] at h
                                          by_cases q22 : ((v1 &&& 63)) = 18
                                          · rw [if_pos q22] at h
                                            refine x_tabIn 1407 dL_law_40 (fun w9 => q3 (Or.inl w9)) (fun w9 => q3 (Or.inr w9)) (by rw [q22]; rfl) (by decide) ?_
                                            exact Wp.mask [true, true, true, true, true, false, false] (hrec 1407 _ _ _ h _ _ rfl _ hQ)
                                          · rw [if_neg q22] at h
                                            by_cases q23 : ((v1 &&& 63)) = 19
                                            · rw [if_pos q23] at h
                                              refine x_tabIn 1487 dL_law_40 (fun w9 => q3 (Or.inl w9)) (fun w9 => q3 (Or.inr w9)) (by rw [q23]; rfl) (by decide) ?_
                                              exact Wp.mask [true, true, true, true, true, false, false] (hrec 1487 _ _ _ h _ _ rfl _ hQ)
                                            · rw [if_neg q23] at h
                                              by_cases q24 : ((v1 &&& 63)) = 20
                                              · rw [if_pos q24] at h
                                                refine x_tabIn 1583 dL_law_40 (fun w9 => q3 (Or.inl w9)) (fun w9 => q3 (Or.inr w9)) (by rw [q24]; rfl) (by decide) ?_
                                                exact Wp.mask [true, true, true, true, true, false, false] (hrec 1583 _ _ _ h _ _ rfl _ hQ)
                                              · rw [if_neg q24] at h
                                                by_cases q25 : ((v1 &&& 63)) = 21
                                                · rw [if_pos q25] at h
                                                  refine x_tabIn 1674 dL_law_40 (fun w9 => q3 (Or.inl w9)) (fun w9 => q3 (Or.inr w9)) (by rw [q25]; rfl) (by decide) ?_
                                                  exact Wp.mask [true, true, true, true, true, false, false] (hrec 1674 _ _ _ h _ _ rfl _ hQ)
                                                · rw [if_neg q25] at h
                                                  by_cases q26 : ((v1 &&& 63)) = 22
                                                  · rw [if_pos q26] at h
                                                    refine x_tabIn 1730 dL_law_40 (fun w9 => q3 (Or.inl w9)) (fun w9 => q3 (Or.inr w9)) (by rw [q26]; rfl) (by decide) ?_
                                                    exact Wp.mask [true, true, true, true, true, false, false] (hrec 1730 _ _ _ h _ _ rfl _ hQ)
                                                  · rw [if_neg q26] at h
                                                    by_cases q27 : ((v1 &&& 63)) = 23
                                                    · rw [if_pos q27] at h
                                                      refine x_tabIn 1798 dL_law_40 (fun w9 => q3 (Or.inl w9)) (fun w9 => q3 (Or.inr w9)) (by rw [q27]; rfl) (by decide) ?_
                                                      exact Wp.mask [true, true, true, true, true, false, false] (hrec 1798 _ _ _ h _ _ rfl _ hQ)
                                                    · rw [if_neg q27] at h
                                                      by_cases q28 : ((v1 &&& 63)) = 24
                                                      · rw [if_pos q28] at h
                                                        refine x_tabIn 1878 dL_law_40 (fun w9 => q3 (Or.inl w9)) (fun w9 => q3 (Or.inr w9)) (by rw [q28]; rfl) (by decide) ?_
                                                        exact Wp.mask [true, true, true, true, true, false, false] (hrec 1878 _ _ _ h _ _ rfl _ hQ)
                                                      · rw [if_neg q28] at h
                                                        by_cases q29 : ((v1 &&& 63)) = 25
                                                        · rw [if_pos q29] at h
                                                          refine x_tabIn 1914 dL_law_40 (fun w9 => q3 (Or.inl w9)) (fun w9 => q3 (Or.inr w9)) (by rw [q29]; rfl) (by decide) ?_
                                                          exact Wp.mask [true, true, true, true, true, false, false] (hrec 1914 _ _ _ h _ _ rfl _ hQ)
                                                        · rw [if_neg q29] at h
                                                          by_cases q30 : ((v1 &&& 63)) = 26
                                                          · rw [if_pos q30] at h
                                                            refine x_tabIn 1970 dL_law_40 (fun w9 => q3 (Or.inl w9)) (fun w9 => q3 (Or.inr w9)) (by rw [q30]; rfl) (by decide) ?_
                                                            exact Wp.mask [true, true, true, true, true, false, false] (hrec 1970 _ _ _ h _ _ rfl _ hQ)
                                                          · rw [if_neg q30] at h
                                                            by_cases q31 : ((v1 &&& 63)) = 27
                                                            · rw [if_pos q31] at h
                                                              refine x_tabIn 2026 dL_law_40 (fun w9 => q3 (Or.inl w9)) (fun w9 => q3 (Or.inr w9)) (by rw [q31]; rfl) (by decide) ?_
                                                              exact Wp.mask [true, true, true, true, true, false, false] (hrec 2026 _ _ _ h _ _ rfl _ hQ)
                                                            · rw [if_neg q31] at h
                                                              by_cases q32 : ((v1 &&& 63)) = 28
                                                              · rw [if_pos q32] at h
                                                                refine x_tabIn 2130 dL_law_40 (fun w9 => q3 (Or.inl w9)) (fun w9 => q3 (Or.inr w9)) (by rw [q32]; rfl) (by decide) ?_
                                                                exact Wp.mask [true, true, true, true, true, false, false] (hrec 2130 _ _ _ h _ _ rfl _ hQ)
                                                              · rw [if_neg q32] at h
                                                                by_cases q33 : ((v1 &&& 63)) = 29
                                                                · rw [if_pos q33] at h
                                                                  refine x_tabIn 2198 dL_law_40 (fun w9 => q3 (Or.inl w9)) (fun w9 => q3 (Or.inr w9)) (by rw [q33]; rfl) (by decide) ?_
                                                                  exact Wp.mask [true, true, true, true, true, false, false] (hrec 2198 _ _ _ h _ _ rfl _ hQ)
                                                                · rw [if_neg q33] at h
                                                                  by_cases q34 : ((v1 &&& 63)) = 30
                                                                  · rw [if_pos q34] at h
                                                                    refine x_tabIn 2266 dL_law_40 (fun w9 => q3 (Or.inl w9)) (fun w9 => q3 (Or.inr w9)) (by rw [q34]; rfl) (by decide) ?_
                                                                    exact Wp.mask [true, true, true, true, true, false, false] (hrec 2266 _ _ _ h _ _ rfl _ hQ)
                                                                  · rw [if_neg q34] at h
                                                                    by_cases q35 : ((v1 &&& 63)) = 31
                                                                    · rw [if_pos q35] at h
                                                                      refine x_tabIn 2322 dL_law_40 (fun w9 => q3 (Or.inl w9)) (fun w9 => q3 (Or.inr w9)) (by rw [q35]; rfl) (by decide) ?_
                                                                      exact Wp.mask [true, true, true, true, true, false, false] (hrec 2322 _ _ _ h _ _ rfl _ hQ)
                                                                    · rw [if_neg q35] at h
                                                                      by_cases q36 : ((v1 &&& 63)) = 32
                                                                      · rw [if_pos q36] at h
                                                                        refine x_tabIn 2413 dL_law_40 (fun w9 => q3 (Or.inl w9)) (fun w9 => q3 (Or.inr w9)) (by rw [q36]; rfl) (by decide) ?_
                                                                        exact Wp.mask [true, true, true, true, true, false, false] (hrec 2413 _ _ _ h _ _ rfl _ hQ)
                                                                      · rw [if_neg q36] at h
                                                                        by_cases q37 : ((v1 &&& 63)) = 33
                                                                        · rw [if_pos q37] at h
                                                                          refine x_tabIn 2497 dL_law_40 (fun w9 => q3 (Or.inl w9)) (fun w9 => q3 (Or.inr w9)) (by rw [q37]; rfl) (by decide) ?_
                                                                          exact Wp.mask [true, true, true, true, true, false, false] (hrec 2497 _ _ _ h _ _ rfl _ hQ)
                                                                        · rw [if_neg q37] at h
                                                                          by_cases q38 : ((v1 &&& 63)) = 34
                                                                          · rw [if_pos q38] at h
                                                                            refine x_tabIn 2565 dL_law_40 (fun w9 => q3 (Or.inl w9)) (fun w9 => q3 (Or.inr w9)) (by rw [q38]; rfl) (by decide) ?_
                                                                            exact Wp.mask [true, true, true, true, true, false, false] (hrec 2565 _ _ _ h _ _ rfl _ hQ)
                                                                          · rw [if_neg q38] at h
                                                                            by_cases q39 : ((v1 &&& 63)) = 35
                                                                            · rw [if_pos q39] at h
                                                                              refine x_tabIn 2621 dL_law_40 (fun w9 => q3 (Or.inl w9)) (fun w9 => q3 (Or.inr w9)) (by rw [q39]; rfl) (by decide) ?_
                                                                              exact Wp.mask [true, true, true, true, true, false, false] (hrec 2621 _ _ _ h _ _ rfl _ hQ)
                                                                            · rw [if_neg q39] at h
                                                                              by_cases q40 : ((v1 &&& 63)) = 36
                                                                              · rw [if_pos q40] at h
                                                                                refine x_tabIn 2689 dL_law_40 (fun w9 => q3 (Or.inl w9)) (fun w9 => q3 (Or.inr w9)) (by rw [q40]; rfl) (by decide) ?_
                                                                                exact Wp.mask [true, true, true, true, true, false, false] (hrec 2689 _ _ _ h _ _ rfl _ hQ)
                                                                              · rw [if_neg q40] at h
                                                                                by_cases q41 : ((v1 &&& 63)) = 37
                                                                                · rw [if_pos q41] at h
                                                                                  refine x_tabIn 2702 dL_law_40 (fun w9 => q3 (Or.inl w9)) (fun w9 => q3 (Or.inr w9)) (by rw [q41]; rfl) (by decide) ?_
                                                                                  exact Wp.mask [true, true, true, true, true, false, false] (hrec 2702 _ _ _ h _ _ rfl _ hQ)
                                                                                · rw [if_neg q41] at h
                                                                                  by_cases q42 : ((v1 &&& 63)) = 38
                                                                                  · rw [if_pos q42] at h
                                                                                    refine x_tabIn 2713 dL_law_40 (fun w9 => q3 (Or.inl w9)) (fun w9 => q3 (Or.inr w9)) (by rw [q42]; rfl) (by decide) ?_
                                                                                    exact Wp.mask [true, true, true, true, true, false, false] (hrec 2713 _ _ _ h _ _ rfl _ hQ)
                                                                                  · rw [if_neg q42] at h
                                                                                    by_cases q43 : ((v1 &&& 63)) = 39
                                                                                    · rw [if_pos q43] at h
                                                                                      refine x_tabIn 2726 dL_law_40 (fun w9 => q3 (Or.inl w9)) (fun w9 => q3 (Or.inr w9)) (by rw [q43]; rfl) (by decide) ?_
                                                                                      exact Wp.mask [true, true, true, true, true, false, false] (hrec 2726 _ _ _ h _ _ rfl _ hQ)
                                                                                    · rw [if_neg q43] at h
                                                                                      cases h
set_option maxHeartbeats 2000000 in
set_option maxRecDepth 20000 in
theorem t_L_law_216 {G : xG} {l : Launch} (hl : l.stackTraces = false) {n : Nat} {rec : Nat → List Value → xH → xO} (hrec : ∀ pc env P z, rec pc env P = some z → ∀ L st, lay_L_law pc env = some (L, st) → ∀ Q : xR → xH → Prop, Q z.1 z.2 → Wp G l 45 mL_law pc L st P Q) {a1 a2 a3 a4} {P : xH} {z : xR × xH} (h : b_L_law_216 n G.2.2.2.2.1 G.2.2.2.2.2 rec a1 a2 a3 a4 P = some z) {Q : xR → xH → Prop} (hQ : Q z.1 z.2) : Wp G l 45 mL_law 216 [some (.retAddr 0), some (.ref a1), some (.ref a2), some (.ref a3), some (.int a4), none, none] [] P Q := by
  unfold b_L_law_216 at h
  refine x_aload_nr dL_law_216 rfl ?_
  refine x_aload_n (Or.inr ⟨_, rfl⟩) dL_law_217 rfl ?_
  refine x_iload dL_law_218 rfl ?_
  refine x_iconst 1 dL_law_220 (by decide) ?_
  refine x_iadd dL_law_221 ?_
  obtain ⟨v1, e2, h⟩ := Option.bind_eq_some_iff.mp h
  refine k_rS e2 dL_law_222 ?_
  refine x_aload_n (Or.inr ⟨_, rfl⟩) dL_law_223 rfl ?_
  refine x_iload dL_law_224 rfl ?_
  refine x_iconst 2 dL_law_226 (by decide) ?_
  refine x_iadd dL_law_227 ?_
  obtain ⟨v3, e4, h⟩ := Option.bind_eq_some_iff.mp h
  refine k_rS e4 dL_law_228 ?_
  refine x_aload_n (Or.inr ⟨_, rfl⟩) dL_law_229 rfl ?_
  refine x_iload dL_law_230 rfl ?_
  refine x_iconst 3 dL_law_232 (by decide) ?_
  refine x_iadd dL_law_233 ?_
  obtain ⟨v5, e6, h⟩ := Option.bind_eq_some_iff.mp h
  refine k_rS e6 dL_law_234 ?_
  refine x_aload_n (Or.inr ⟨_, rfl⟩) dL_law_235 rfl ?_
  refine x_iload dL_law_236 rfl ?_
  refine x_iconst 4 dL_law_238 (by decide) ?_
  refine x_iadd dL_law_239 ?_
  obtain ⟨v7, e8, h⟩ := Option.bind_eq_some_iff.mp h
  refine k_rS e8 dL_law_240 ?_
  refine x_aload_n (Or.inr ⟨_, rfl⟩) dL_law_241 rfl ?_
  refine x_iload dL_law_242 rfl ?_
  refine x_iconst 5 dL_law_244 (by decide) ?_
  refine x_iadd dL_law_245 ?_
  obtain ⟨v9, e10, h⟩ := Option.bind_eq_some_iff.mp h
  refine k_rS e10 dL_law_246 ?_
  obtain ⟨_, e15, h⟩ := Option.bind_eq_some_iff.mp h
  obtain ⟨fse15, e15⟩ := kO_ok e15
  obtain ⟨r12, e13, h⟩ := Option.bind_eq_some_iff.mp h
  replace h := xI_ok h
  obtain ⟨v14, P11, rfl, h⟩ := h
  refine x_callV (c_X10_feed hl e13) dL_law_247 cw_X10_feed wl_L_133 wi_X10_feed wse_X10_feed rfl e15 (by decide) rfl (by omega) (by decide) rfl (Nat.le_of_ble_eq_true rfl) rfl (fun v9 P9 hq9 => ?_) (fun i9 P9 hq9 => by cases hq9)
  cases hq9
  refine x_aload_nr dL_law_250 rfl ?_
  refine x_aload_n (Or.inr ⟨_, rfl⟩) dL_law_251 rfl ?_
  refine x_iload dL_law_252 rfl ?_
  refine x_iconst 1 dL_law_254 (by decide) ?_
  refine x_iadd dL_law_255 ?_
  obtain ⟨v16, e17, h⟩ := Option.bind_eq_some_iff.mp h
  refine k_rS e17 dL_law_256 ?_
  refine x_aload_n (Or.inr ⟨_, rfl⟩) dL_law_257 rfl ?_
  refine x_iload dL_law_258 rfl ?_
  refine x_iconst 2 dL_law_260 (by decide) ?_
  refine x_iadd dL_law_261 ?_
  obtain ⟨v18, e19, h⟩ := Option.bind_eq_some_iff.mp h
  refine k_rS e19 dL_law_262 ?_
  refine x_aload_n (Or.inr ⟨_, rfl⟩) dL_law_263 rfl ?_
  refine x_iload dL_law_264 rfl ?_
  refine x_iconst 3 dL_law_266 (by decide) ?_
  refine x_iadd dL_law_267 ?_
  obtain ⟨v20, e21, h⟩ := Option.bind_eq_some_iff.mp h
  refine k_rS e21 dL_law_268 ?_
  refine x_aload_n (Or.inr ⟨_, rfl⟩) dL_law_269 rfl ?_
  refine x_iload dL_law_270 rfl ?_
  refine x_iconst 4 dL_law_272 (by decide) ?_
  refine x_iadd dL_law_273 ?_
  obtain ⟨v22, e23, h⟩ := Option.bind_eq_some_iff.mp h
  refine k_rS e23 dL_law_274 ?_
  refine x_aload_n (Or.inr ⟨_, rfl⟩) dL_law_275 rfl ?_
  refine x_iload dL_law_276 rfl ?_
  refine x_iconst 5 dL_law_278 (by decide) ?_
  refine x_iadd dL_law_279 ?_
  obtain ⟨v24, e25, h⟩ := Option.bind_eq_some_iff.mp h
  refine k_rS e25 dL_law_280 ?_
  obtain ⟨_, e30, h⟩ := Option.bind_eq_some_iff.mp h
  obtain ⟨fse30, e30⟩ := kO_ok e30
  obtain ⟨r27, e28, h⟩ := Option.bind_eq_some_iff.mp h
  replace h := xI_ok h
  obtain ⟨v29, P26, rfl, h⟩ := h
  refine x_callV (c_X11_feed hl e28) dL_law_281 cw_X11_feed wl_L_136 wi_X11_feed wse_X11_feed rfl e30 (by decide) rfl (by omega) (by decide) rfl (Nat.le_of_ble_eq_true rfl) rfl (fun v9 P9 hq9 => ?_) (fun i9 P9 hq9 => by cases hq9)
  cases hq9
  refine x_icmp_eq 2751 dL_law_284 (by decide) (fun q31 => ?_) (fun q31 => ?_)
  · rw [if_pos q31] at h
    exact Wp.mask [true, true, true, true, true, false, false] (hrec 2751 _ _ _ h _ _ rfl _ hQ)
  · rw [if_neg q31] at h
    refine x_iconst 0 dL_law_287 (by decide) ?_
    cases h
    exact x_iret .boolean rfl rfl dL_law_288 hQ
set_option maxHeartbeats 2000000 in
set_option maxRecDepth 20000 in
theorem t_L_law_289 {G : xG} {l : Launch} (hl : l.stackTraces = false) {n : Nat} {rec : Nat → List Value → xH → xO} (hrec : ∀ pc env P z, rec pc env P = some z → ∀ L st, lay_L_law pc env = some (L, st) → ∀ Q : xR → xH → Prop, Q z.1 z.2 → Wp G l 45 mL_law pc L st P Q) {a1 a2 a3 a4} {P : xH} {z : xR × xH} (h : b_L_law_289 n G.2.2.2.2.1 G.2.2.2.2.2 rec a1 a2 a3 a4 P = some z) {Q : xR → xH → Prop} (hQ : Q z.1 z.2) : Wp G l 45 mL_law 289 [some (.retAddr 0), some (.ref a1), some (.ref a2), some (.ref a3), some (.int a4), none, none] [] P Q := by
  unfold b_L_law_289 at h
  refine x_aload_nr dL_law_289 rfl ?_
  refine x_aload_n (Or.inr ⟨_, rfl⟩) dL_law_290 rfl ?_
  refine x_iload dL_law_291 rfl ?_
  refine x_iconst 1 dL_law_293 (by decide) ?_
  refine x_iadd dL_law_294 ?_
  obtain ⟨v1, e2, h⟩ := Option.bind_eq_some_iff.mp h
  refine k_rS e2 dL_law_295 ?_
  obtain ⟨_, e7, h⟩ := Option.bind_eq_some_iff.mp h
  obtain ⟨fse7, e7⟩ := kO_ok e7
  obtain ⟨r4, e5, h⟩ := Option.bind_eq_some_iff.mp h
  replace h := xI_ok h
  obtain ⟨v6, P3, rfl, h⟩ := h
  refine x_callV (c_X10_end hl e5) dL_law_296 cw_X10_end wl_L_137 wi_X10_end wse_X10_end rfl e7 (by decide) rfl (by omega) (by decide) rfl (Nat.le_of_ble_eq_true rfl) rfl (fun v9 P9 hq9 => ?_) (fun i9 P9 hq9 => by cases hq9)
  cases hq9
  refine x_aload_nr dL_law_299 rfl ?_
  refine x_aload_n (Or.inr ⟨_, rfl⟩) dL_law_300 rfl ?_
  refine x_iload dL_law_301 rfl ?_
  refine x_iconst 1 dL_law_303 (by decide) ?_
  refine x_iadd dL_law_304 ?_
  obtain ⟨v8, e9, h⟩ := Option.bind_eq_some_iff.mp h
  refine k_rS e9 dL_law_305 ?_
  obtain ⟨_, e14, h⟩ := Option.bind_eq_some_iff.mp h
  obtain ⟨fse14, e14⟩ := kO_ok e14
  obtain ⟨r11, e12, h⟩ := Option.bind_eq_some_iff.mp h
  replace h := xI_ok h
  obtain ⟨v13, P10, rfl, h⟩ := h
  refine x_callV (c_X11_end hl e12) dL_law_306 cw_X11_end wl_L_141 wi_X11_end wse_X11_end rfl e14 (by decide) rfl (by omega) (by decide) rfl (Nat.le_of_ble_eq_true rfl) rfl (fun v9 P9 hq9 => ?_) (fun i9 P9 hq9 => by cases hq9)
  cases hq9
  refine x_icmp_eq 2751 dL_law_309 (by decide) (fun q15 => ?_) (fun q15 => ?_)
  · rw [if_pos q15] at h
    exact Wp.mask [true, true, true, true, true, false, false] (hrec 2751 _ _ _ h _ _ rfl _ hQ)
  · rw [if_neg q15] at h
    refine x_iconst 0 dL_law_312 (by decide) ?_
    cases h
    exact x_iret .boolean rfl rfl dL_law_313 hQ
set_option maxHeartbeats 2000000 in
set_option maxRecDepth 20000 in
theorem t_L_law_314 {G : xG} {l : Launch} (hl : l.stackTraces = false) {n : Nat} {rec : Nat → List Value → xH → xO} (hrec : ∀ pc env P z, rec pc env P = some z → ∀ L st, lay_L_law pc env = some (L, st) → ∀ Q : xR → xH → Prop, Q z.1 z.2 → Wp G l 45 mL_law pc L st P Q) {a1 a2 a3 a4} {P : xH} {z : xR × xH} (h : b_L_law_314 n G.2.2.2.2.1 G.2.2.2.2.2 rec a1 a2 a3 a4 P = some z) {Q : xR → xH → Prop} (hQ : Q z.1 z.2) : Wp G l 45 mL_law 314 [some (.retAddr 0), some (.ref a1), some (.ref a2), some (.ref a3), some (.int a4), none, none] [] P Q := by
  unfold b_L_law_314 at h
  refine x_aload_nr dL_law_314 rfl ?_
  refine x_aload_n (Or.inr ⟨_, rfl⟩) dL_law_315 rfl ?_
  refine x_iload dL_law_316 rfl ?_
  refine x_iconst 1 dL_law_318 (by decide) ?_
  refine x_iadd dL_law_319 ?_
  obtain ⟨v1, e2, h⟩ := Option.bind_eq_some_iff.mp h
  refine k_rS e2 dL_law_320 ?_
  refine x_aload_n (Or.inr ⟨_, rfl⟩) dL_law_321 rfl ?_
  refine x_iload dL_law_322 rfl ?_
  refine x_iconst 2 dL_law_324 (by decide) ?_
  refine x_iadd dL_law_325 ?_
  obtain ⟨v3, e4, h⟩ := Option.bind_eq_some_iff.mp h
  refine k_rS e4 dL_law_326 ?_
  refine x_aload_n (Or.inr ⟨_, rfl⟩) dL_law_327 rfl ?_
  refine x_iload dL_law_328 rfl ?_
  refine x_iconst 3 dL_law_330 (by decide) ?_
  refine x_iadd dL_law_331 ?_
  obtain ⟨v5, e6, h⟩ := Option.bind_eq_some_iff.mp h
  refine k_rS e6 dL_law_332 ?_
  refine x_aload_n (Or.inr ⟨_, rfl⟩) dL_law_333 rfl ?_
  refine x_iload dL_law_334 rfl ?_
  refine x_iconst 4 dL_law_336 (by decide) ?_
  refine x_iadd dL_law_337 ?_
  obtain ⟨v7, e8, h⟩ := Option.bind_eq_some_iff.mp h
  refine k_rS e8 dL_law_338 ?_
  refine x_aload_nr dL_law_339 rfl ?_
  obtain ⟨r10, e11, h⟩ := Option.bind_eq_some_iff.mp h
  replace h := xI_ok h
  obtain ⟨v12, P9, rfl, h⟩ := h
  refine x_callSH (c_L_phone hl e11) dL_law_340 ch_L_phone wl_L_142 ws_L_phone rfl (by omega) (by decide) rfl (Nat.le_of_ble_eq_true rfl) rfl (fun v9 P9 hq9 => ?_) (fun i9 P9 hq9 => by cases hq9)
  cases hq9
  refine x_istore dL_law_343 (Nat.le_of_ble_eq_true rfl) ?_
  refine x_aload_nr dL_law_345 rfl ?_
  refine x_aload_n (Or.inr ⟨_, rfl⟩) dL_law_346 rfl ?_
  refine x_iload dL_law_347 rfl ?_
  refine x_iconst 1 dL_law_349 (by decide) ?_
  refine x_iadd dL_law_350 ?_
  obtain ⟨v13, e14, h⟩ := Option.bind_eq_some_iff.mp h
  refine k_rS e14 dL_law_351 ?_
  refine x_aload_n (Or.inr ⟨_, rfl⟩) dL_law_352 rfl ?_
  refine x_iload dL_law_353 rfl ?_
  refine x_iconst 2 dL_law_355 (by decide) ?_
  refine x_iadd dL_law_356 ?_
  obtain ⟨v15, e16, h⟩ := Option.bind_eq_some_iff.mp h
  refine k_rS e16 dL_law_357 ?_
  refine x_aload_n (Or.inr ⟨_, rfl⟩) dL_law_358 rfl ?_
  refine x_iload dL_law_359 rfl ?_
  refine x_iconst 3 dL_law_361 (by decide) ?_
  refine x_iadd dL_law_362 ?_
  obtain ⟨v17, e18, h⟩ := Option.bind_eq_some_iff.mp h
  refine k_rS e18 dL_law_363 ?_
  refine x_aload_n (Or.inr ⟨_, rfl⟩) dL_law_364 rfl ?_
  refine x_iload dL_law_365 rfl ?_
  refine x_iconst 4 dL_law_367 (by decide) ?_
  refine x_iadd dL_law_368 ?_
  obtain ⟨v19, e20, h⟩ := Option.bind_eq_some_iff.mp h
  refine k_rS e20 dL_law_369 ?_
  obtain ⟨_, e25, h⟩ := Option.bind_eq_some_iff.mp h
  obtain ⟨fse25, e25⟩ := kO_ok e25
  obtain ⟨r22, e23, h⟩ := Option.bind_eq_some_iff.mp h
  replace h := xI_ok h
  obtain ⟨v24, P21, rfl, h⟩ := h
  refine x_callV (c_X11_phone hl e23) dL_law_370 cw_X11_phone wl_L_147 wi_X11_phone wse_X11_phone rfl e25 (by decide) rfl (by omega) (by decide) rfl (Nat.le_of_ble_eq_true rfl) rfl (fun v9 P9 hq9 => ?_) (fun i9 P9 hq9 => by cases hq9)
  cases hq9
  refine x_istore dL_law_373 (Nat.le_of_ble_eq_true rfl) ?_
  refine x_aload_nr dL_law_375 rfl ?_
  obtain ⟨_, e30, h⟩ := Option.bind_eq_some_iff.mp h
  obtain ⟨fse30, e30⟩ := kO_ok e30
  obtain ⟨r27, e28, h⟩ := Option.bind_eq_some_iff.mp h
  replace h := xI_ok h
  obtain ⟨v29, P26, rfl, h⟩ := h
  refine x_callV (c_X11_thrown hl e28) dL_law_376 cw_X11_thrown wl_L_148 wi_X11_thrown wse_X11_thrown rfl e30 (by decide) rfl (by omega) (by decide) rfl (Nat.le_of_ble_eq_true rfl) rfl (fun v9 P9 hq9 => ?_) (fun i9 P9 hq9 => by cases hq9)
  cases hq9
  refine x_iload dL_law_379 rfl ?_
  refine x_icmp_eq 386 dL_law_381 (by decide) (fun q35 => ?_) (fun q35 => ?_)
  · rw [if_pos q35] at h
    refine x_iload dL_law_386 rfl ?_
    refine x_if_ne 403 dL_law_388 (by decide) (fun q34 => ?_) (fun q34 => ?_)
    · rw [if_pos q34] at h
      refine x_goto 2751 dL_law_403 (by decide) ?_
      exact Wp.mask [true, true, true, true, true, false, false] (hrec 2751 _ _ _ h _ _ rfl _ hQ)
    · rw [if_neg (fun z9 => z9 q34)] at h
      refine x_aload_nr dL_law_391 rfl ?_
      refine x_iconst 0 dL_law_392 (by decide) ?_
      obtain ⟨v31, e32, h⟩ := Option.bind_eq_some_iff.mp h
      refine k_aJ e32 dL_law_393 ?_
      refine x_iload dL_law_394 rfl ?_
      refine x_i2l dL_law_396 ?_
      refine x_lcmp dL_law_397 ?_
      refine x_if_eq 403 dL_law_398 (by decide) (fun q33 => ?_) (fun q33 => ?_)
      · rw [if_pos q33] at h
        refine x_goto 2751 dL_law_403 (by decide) ?_
        exact Wp.mask [true, true, true, true, true, false, false] (hrec 2751 _ _ _ h _ _ rfl _ hQ)
      · rw [if_neg q33] at h
        refine x_iconst 0 dL_law_401 (by decide) ?_
        cases h
        exact x_iret .boolean rfl rfl dL_law_402 hQ
  · rw [if_neg q35] at h
    refine x_iconst 0 dL_law_384 (by decide) ?_
    cases h
    exact x_iret .boolean rfl rfl dL_law_385 hQ
set_option maxHeartbeats 2000000 in
set_option maxRecDepth 20000 in
theorem t_L_law_406 {G : xG} {l : Launch} (hl : l.stackTraces = false) {n : Nat} {rec : Nat → List Value → xH → xO} (hrec : ∀ pc env P z, rec pc env P = some z → ∀ L st, lay_L_law pc env = some (L, st) → ∀ Q : xR → xH → Prop, Q z.1 z.2 → Wp G l 45 mL_law pc L st P Q) {a1 a2 a3 a4} {P : xH} {z : xR × xH} (h : b_L_law_406 n G.2.2.2.2.1 G.2.2.2.2.2 rec a1 a2 a3 a4 P = some z) {Q : xR → xH → Prop} (hQ : Q z.1 z.2) : Wp G l 45 mL_law 406 [some (.retAddr 0), some (.ref a1), some (.ref a2), some (.ref a3), some (.int a4), none, none] [] P Q := by
  unfold b_L_law_406 at h
  refine x_aload_nr dL_law_406 rfl ?_
  refine x_aload_n (Or.inr ⟨_, rfl⟩) dL_law_407 rfl ?_
  refine x_iload dL_law_408 rfl ?_
  refine x_iconst 1 dL_law_410 (by decide) ?_
  refine x_iadd dL_law_411 ?_
  obtain ⟨v1, e2, h⟩ := Option.bind_eq_some_iff.mp h
  refine k_rS e2 dL_law_412 ?_
  refine x_aload_n (Or.inr ⟨_, rfl⟩) dL_law_413 rfl ?_
  refine x_iload dL_law_414 rfl ?_
  refine x_iconst 2 dL_law_416 (by decide) ?_
  refine x_iadd dL_law_417 ?_
  obtain ⟨v3, e4, h⟩ := Option.bind_eq_some_iff.mp h
  refine k_rS e4 dL_law_418 ?_
  refine x_aload_n (Or.inr ⟨_, rfl⟩) dL_law_419 rfl ?_
  refine x_iload dL_law_420 rfl ?_
  refine x_iconst 3 dL_law_422 (by decide) ?_
  refine x_iadd dL_law_423 ?_
  obtain ⟨v5, e6, h⟩ := Option.bind_eq_some_iff.mp h
  refine k_rS e6 dL_law_424 ?_
  refine x_aload_n (Or.inr ⟨_, rfl⟩) dL_law_425 rfl ?_
  refine x_iload dL_law_426 rfl ?_
  refine x_iconst 4 dL_law_428 (by decide) ?_
  refine x_iadd dL_law_429 ?_
  obtain ⟨v7, e8, h⟩ := Option.bind_eq_some_iff.mp h
  refine k_rS e8 dL_law_430 ?_
  refine x_aload_nr dL_law_431 rfl ?_
  obtain ⟨r10, e11, h⟩ := Option.bind_eq_some_iff.mp h
  replace h := xI_ok h
  obtain ⟨v12, P9, rfl, h⟩ := h
  refine x_callSH (c_L_move hl e11) dL_law_432 ch_L_move wl_L_151 ws_L_move rfl (by omega) (by decide) rfl (Nat.le_of_ble_eq_true rfl) rfl (fun v9 P9 hq9 => ?_) (fun i9 P9 hq9 => by cases hq9)
  cases hq9
  refine x_istore dL_law_435 (Nat.le_of_ble_eq_true rfl) ?_
  refine x_aload_nr dL_law_437 rfl ?_
  refine x_aload_n (Or.inr ⟨_, rfl⟩) dL_law_438 rfl ?_
  refine x_iload dL_law_439 rfl ?_
  refine x_iconst 1 dL_law_441 (by decide) ?_
  refine x_iadd dL_law_442 ?_
  obtain ⟨v13, e14, h⟩ := Option.bind_eq_some_iff.mp h
  refine k_rS e14 dL_law_443 ?_
  refine x_aload_n (Or.inr ⟨_, rfl⟩) dL_law_444 rfl ?_
  refine x_iload dL_law_445 rfl ?_
  refine x_iconst 2 dL_law_447 (by decide) ?_
  refine x_iadd dL_law_448 ?_
  obtain ⟨v15, e16, h⟩ := Option.bind_eq_some_iff.mp h
  refine k_rS e16 dL_law_449 ?_
  refine x_aload_n (Or.inr ⟨_, rfl⟩) dL_law_450 rfl ?_
  refine x_iload dL_law_451 rfl ?_
  refine x_iconst 3 dL_law_453 (by decide) ?_
  refine x_iadd dL_law_454 ?_
  obtain ⟨v17, e18, h⟩ := Option.bind_eq_some_iff.mp h
  refine k_rS e18 dL_law_455 ?_
  refine x_aload_n (Or.inr ⟨_, rfl⟩) dL_law_456 rfl ?_
  refine x_iload dL_law_457 rfl ?_
  refine x_iconst 4 dL_law_459 (by decide) ?_
  refine x_iadd dL_law_460 ?_
  obtain ⟨v19, e20, h⟩ := Option.bind_eq_some_iff.mp h
  refine k_rS e20 dL_law_461 ?_
  obtain ⟨_, e25, h⟩ := Option.bind_eq_some_iff.mp h
  obtain ⟨fse25, e25⟩ := kO_ok e25
  obtain ⟨r22, e23, h⟩ := Option.bind_eq_some_iff.mp h
  replace h := xI_ok h
  obtain ⟨v24, P21, rfl, h⟩ := h
  refine x_callV (c_X11_move hl e23) dL_law_462 cw_X11_move wl_L_153 wi_X11_move wse_X11_move rfl e25 (by decide) rfl (by omega) (by decide) rfl (Nat.le_of_ble_eq_true rfl) rfl (fun v9 P9 hq9 => ?_) (fun i9 P9 hq9 => by cases hq9)
  cases hq9
  refine x_istore dL_law_465 (Nat.le_of_ble_eq_true rfl) ?_
  refine x_aload_nr dL_law_467 rfl ?_
  obtain ⟨_, e30, h⟩ := Option.bind_eq_some_iff.mp h
  obtain ⟨fse30, e30⟩ := kO_ok e30
  obtain ⟨r27, e28, h⟩ := Option.bind_eq_some_iff.mp h
  replace h := xI_ok h
  obtain ⟨v29, P26, rfl, h⟩ := h
  refine x_callV (c_X11_thrown hl e28) dL_law_468 cw_X11_thrown wl_L_148 wi_X11_thrown wse_X11_thrown rfl e30 (by decide) rfl (by omega) (by decide) rfl (Nat.le_of_ble_eq_true rfl) rfl (fun v9 P9 hq9 => ?_) (fun i9 P9 hq9 => by cases hq9)
  cases hq9
  refine x_iload dL_law_471 rfl ?_
  refine x_icmp_eq 478 dL_law_473 (by decide) (fun q35 => ?_) (fun q35 => ?_)
  · rw [if_pos q35] at h
    refine x_iload dL_law_478 rfl ?_
    refine x_if_ne 495 dL_law_480 (by decide) (fun q34 => ?_) (fun q34 => ?_)
    · rw [if_pos q34] at h
      refine x_goto 2751 dL_law_495 (by decide) ?_
      exact Wp.mask [true, true, true, true, true, false, false] (hrec 2751 _ _ _ h _ _ rfl _ hQ)
    · rw [if_neg (fun z9 => z9 q34)] at h
      refine x_aload_nr dL_law_483 rfl ?_
      refine x_iconst 0 dL_law_484 (by decide) ?_
      obtain ⟨v31, e32, h⟩ := Option.bind_eq_some_iff.mp h
      refine k_aJ e32 dL_law_485 ?_
      refine x_iload dL_law_486 rfl ?_
      refine x_i2l dL_law_488 ?_
      refine x_lcmp dL_law_489 ?_
      refine x_if_eq 495 dL_law_490 (by decide) (fun q33 => ?_) (fun q33 => ?_)
      · rw [if_pos q33] at h
        refine x_goto 2751 dL_law_495 (by decide) ?_
        exact Wp.mask [true, true, true, true, true, false, false] (hrec 2751 _ _ _ h _ _ rfl _ hQ)
      · rw [if_neg q33] at h
        refine x_iconst 0 dL_law_493 (by decide) ?_
        cases h
        exact x_iret .boolean rfl rfl dL_law_494 hQ
  · rw [if_neg q35] at h
    refine x_iconst 0 dL_law_476 (by decide) ?_
    cases h
    exact x_iret .boolean rfl rfl dL_law_477 hQ
set_option maxHeartbeats 2000000 in
set_option maxRecDepth 20000 in
theorem t_L_law_498 {G : xG} {l : Launch} (hl : l.stackTraces = false) {n : Nat} {rec : Nat → List Value → xH → xO} (hrec : ∀ pc env P z, rec pc env P = some z → ∀ L st, lay_L_law pc env = some (L, st) → ∀ Q : xR → xH → Prop, Q z.1 z.2 → Wp G l 45 mL_law pc L st P Q) {a1 a2 a3 a4} {P : xH} {z : xR × xH} (h : b_L_law_498 n G.2.2.2.2.1 G.2.2.2.2.2 rec a1 a2 a3 a4 P = some z) {Q : xR → xH → Prop} (hQ : Q z.1 z.2) : Wp G l 45 mL_law 498 [some (.retAddr 0), some (.ref a1), some (.ref a2), some (.ref a3), some (.int a4), none, none] [] P Q := by
  unfold b_L_law_498 at h
  refine x_aload_nr dL_law_498 rfl ?_
  refine x_aload_nr dL_law_499 rfl ?_
  obtain ⟨r2, e3, h⟩ := Option.bind_eq_some_iff.mp h
  replace h := xI_ok h
  obtain ⟨v4, P1, rfl, h⟩ := h
  refine x_callSH (c_L_rules hl e3) dL_law_500 ch_L_rules wl_L_154 ws_L_rules rfl (by omega) (by decide) rfl (Nat.le_of_ble_eq_true rfl) rfl (fun v9 P9 hq9 => ?_) (fun i9 P9 hq9 => by cases hq9)
  cases hq9
  refine x_istore dL_law_503 (Nat.le_of_ble_eq_true rfl) ?_
  refine x_aload_nr dL_law_505 rfl ?_
  obtain ⟨_, e9, h⟩ := Option.bind_eq_some_iff.mp h
  obtain ⟨fse9, e9⟩ := kO_ok e9
  obtain ⟨r6, e7, h⟩ := Option.bind_eq_some_iff.mp h
  replace h := xI_ok h
  obtain ⟨v8, P5, rfl, h⟩ := h
  refine x_callV (c_X11_rules hl e7) dL_law_506 cw_X11_rules wl_L_157 wi_X11_rules wse_X11_rules rfl e9 (by decide) rfl (by omega) (by decide) rfl (Nat.le_of_ble_eq_true rfl) rfl (fun v9 P9 hq9 => ?_) (fun i9 P9 hq9 => by cases hq9)
  cases hq9
  refine x_istore dL_law_509 (Nat.le_of_ble_eq_true rfl) ?_
  refine x_aload_nr dL_law_511 rfl ?_
  obtain ⟨_, e14, h⟩ := Option.bind_eq_some_iff.mp h
  obtain ⟨fse14, e14⟩ := kO_ok e14
  obtain ⟨r11, e12, h⟩ := Option.bind_eq_some_iff.mp h
  replace h := xI_ok h
  obtain ⟨v13, P10, rfl, h⟩ := h
  refine x_callV (c_X11_thrown hl e12) dL_law_512 cw_X11_thrown wl_L_148 wi_X11_thrown wse_X11_thrown rfl e14 (by decide) rfl (by omega) (by decide) rfl (Nat.le_of_ble_eq_true rfl) rfl (fun v9 P9 hq9 => ?_) (fun i9 P9 hq9 => by cases hq9)
  cases hq9
  refine x_iload dL_law_515 rfl ?_
  refine x_icmp_eq 522 dL_law_517 (by decide) (fun q19 => ?_) (fun q19 => ?_)
  · rw [if_pos q19] at h
    refine x_iload dL_law_522 rfl ?_
    refine x_if_ne 539 dL_law_524 (by decide) (fun q18 => ?_) (fun q18 => ?_)
    · rw [if_pos q18] at h
      refine x_goto 2751 dL_law_539 (by decide) ?_
      exact Wp.mask [true, true, true, true, true, false, false] (hrec 2751 _ _ _ h _ _ rfl _ hQ)
    · rw [if_neg (fun z9 => z9 q18)] at h
      refine x_aload_nr dL_law_527 rfl ?_
      refine x_iconst 0 dL_law_528 (by decide) ?_
      obtain ⟨v15, e16, h⟩ := Option.bind_eq_some_iff.mp h
      refine k_aJ e16 dL_law_529 ?_
      refine x_iload dL_law_530 rfl ?_
      refine x_i2l dL_law_532 ?_
      refine x_lcmp dL_law_533 ?_
      refine x_if_eq 539 dL_law_534 (by decide) (fun q17 => ?_) (fun q17 => ?_)
      · rw [if_pos q17] at h
        refine x_goto 2751 dL_law_539 (by decide) ?_
        exact Wp.mask [true, true, true, true, true, false, false] (hrec 2751 _ _ _ h _ _ rfl _ hQ)
      · rw [if_neg q17] at h
        refine x_iconst 0 dL_law_537 (by decide) ?_
        cases h
        exact x_iret .boolean rfl rfl dL_law_538 hQ
  · rw [if_neg q19] at h
    refine x_iconst 0 dL_law_520 (by decide) ?_
    cases h
    exact x_iret .boolean rfl rfl dL_law_521 hQ
set_option maxHeartbeats 2000000 in
set_option maxRecDepth 20000 in
theorem t_L_law_542 {G : xG} {l : Launch} (hl : l.stackTraces = false) {n : Nat} {rec : Nat → List Value → xH → xO} (hrec : ∀ pc env P z, rec pc env P = some z → ∀ L st, lay_L_law pc env = some (L, st) → ∀ Q : xR → xH → Prop, Q z.1 z.2 → Wp G l 45 mL_law pc L st P Q) {a1 a2 a3 a4} {P : xH} {z : xR × xH} (h : b_L_law_542 n G.2.2.2.2.1 G.2.2.2.2.2 rec a1 a2 a3 a4 P = some z) {Q : xR → xH → Prop} (hQ : Q z.1 z.2) : Wp G l 45 mL_law 542 [some (.retAddr 0), some (.ref a1), some (.ref a2), some (.ref a3), some (.int a4), none, none] [] P Q := by
  unfold b_L_law_542 at h
  refine x_aload_nr dL_law_542 rfl ?_
  obtain ⟨_, e5, h⟩ := Option.bind_eq_some_iff.mp h
  obtain ⟨fse5, e5⟩ := kO_ok e5
  obtain ⟨r2, e3, h⟩ := Option.bind_eq_some_iff.mp h
  replace h := xI_ok h
  obtain ⟨v4, P1, rfl, h⟩ := h
  refine x_callV (c_X10_fault hl e3) dL_law_543 cw_X10_fault wl_L_158 wi_X10_fault wse_X10_fault rfl e5 (by decide) rfl (by omega) (by decide) rfl (Nat.le_of_ble_eq_true rfl) rfl (fun v9 P9 hq9 => ?_) (fun i9 P9 hq9 => by cases hq9)
  cases hq9
  refine x_aload_nr dL_law_546 rfl ?_
  obtain ⟨_, e10, h⟩ := Option.bind_eq_some_iff.mp h
  obtain ⟨fse10, e10⟩ := kO_ok e10
  obtain ⟨r7, e8, h⟩ := Option.bind_eq_some_iff.mp h
  replace h := xI_ok h
  obtain ⟨v9, P6, rfl, h⟩ := h
  refine x_callV (c_X11_fault hl e8) dL_law_547 cw_X11_fault wl_L_161 wi_X11_fault wse_X11_fault rfl e10 (by decide) rfl (by omega) (by decide) rfl (Nat.le_of_ble_eq_true rfl) rfl (fun v9 P9 hq9 => ?_) (fun i9 P9 hq9 => by cases hq9)
  cases hq9
  refine x_icmp_eq 2751 dL_law_550 (by decide) (fun q11 => ?_) (fun q11 => ?_)
  · rw [if_pos q11] at h
    exact Wp.mask [true, true, true, true, true, false, false] (hrec 2751 _ _ _ h _ _ rfl _ hQ)
  · rw [if_neg q11] at h
    refine x_iconst 0 dL_law_553 (by decide) ?_
    cases h
    exact x_iret .boolean rfl rfl dL_law_554 hQ
set_option maxHeartbeats 2000000 in
set_option maxRecDepth 20000 in
theorem t_L_law_555 {G : xG} {l : Launch} (hl : l.stackTraces = false) {n : Nat} {rec : Nat → List Value → xH → xO} (hrec : ∀ pc env P z, rec pc env P = some z → ∀ L st, lay_L_law pc env = some (L, st) → ∀ Q : xR → xH → Prop, Q z.1 z.2 → Wp G l 45 mL_law pc L st P Q) {a1 a2 a3 a4} {P : xH} {z : xR × xH} (h : b_L_law_555 n G.2.2.2.2.1 G.2.2.2.2.2 rec a1 a2 a3 a4 P = some z) {Q : xR → xH → Prop} (hQ : Q z.1 z.2) : Wp G l 45 mL_law 555 [some (.retAddr 0), some (.ref a1), some (.ref a2), some (.ref a3), some (.int a4), none, none] [] P Q := by
  unfold b_L_law_555 at h
  refine x_aload_nr dL_law_555 rfl ?_
  refine x_aload_n (Or.inr ⟨_, rfl⟩) dL_law_556 rfl ?_
  refine x_iload dL_law_557 rfl ?_
  refine x_iconst 1 dL_law_559 (by decide) ?_
  refine x_iadd dL_law_560 ?_
  obtain ⟨v1, e2, h⟩ := Option.bind_eq_some_iff.mp h
  refine k_rS e2 dL_law_561 ?_
  refine x_aload_n (Or.inr ⟨_, rfl⟩) dL_law_562 rfl ?_
  refine x_iload dL_law_563 rfl ?_
  refine x_iconst 2 dL_law_565 (by decide) ?_
  refine x_iadd dL_law_566 ?_
  obtain ⟨v3, e4, h⟩ := Option.bind_eq_some_iff.mp h
  refine k_rS e4 dL_law_567 ?_
  refine x_aload_n (Or.inr ⟨_, rfl⟩) dL_law_568 rfl ?_
  refine x_iload dL_law_569 rfl ?_
  refine x_iconst 3 dL_law_571 (by decide) ?_
  refine x_iadd dL_law_572 ?_
  obtain ⟨v5, e6, h⟩ := Option.bind_eq_some_iff.mp h
  refine k_rS e6 dL_law_573 ?_
  refine x_aload_n (Or.inr ⟨_, rfl⟩) dL_law_574 rfl ?_
  refine x_iload dL_law_575 rfl ?_
  refine x_iconst 4 dL_law_577 (by decide) ?_
  refine x_iadd dL_law_578 ?_
  obtain ⟨v7, e8, h⟩ := Option.bind_eq_some_iff.mp h
  refine k_rS e8 dL_law_579 ?_
  refine x_aload_n (Or.inr ⟨_, rfl⟩) dL_law_580 rfl ?_
  refine x_iload dL_law_581 rfl ?_
  refine x_iconst 5 dL_law_583 (by decide) ?_
  refine x_iadd dL_law_584 ?_
  obtain ⟨v9, e10, h⟩ := Option.bind_eq_some_iff.mp h
  refine k_rS e10 dL_law_585 ?_
  refine x_aload_n (Or.inr ⟨_, rfl⟩) dL_law_586 rfl ?_
  refine x_iload dL_law_587 rfl ?_
  refine x_bipush 6 dL_law_589 (by decide) ?_
  refine x_iadd dL_law_591 ?_
  obtain ⟨v11, e12, h⟩ := Option.bind_eq_some_iff.mp h
  refine k_rS e12 dL_law_592 ?_
  refine x_aload_n (Or.inr ⟨_, rfl⟩) dL_law_593 rfl ?_
  refine x_iload dL_law_594 rfl ?_
  refine x_bipush 7 dL_law_596 (by decide) ?_
  refine x_iadd dL_law_598 ?_
  obtain ⟨v13, e14, h⟩ := Option.bind_eq_some_iff.mp h
  refine k_rS e14 dL_law_599 ?_
  refine x_aload_nr dL_law_600 rfl ?_
  obtain ⟨r16, e17, h⟩ := Option.bind_eq_some_iff.mp h
  replace h := xI_ok h
  obtain ⟨v18, P15, rfl, h⟩ := h
  refine x_callSH (c_L_say hl e17) dL_law_601 ch_L_say wl_L_162 ws_L_say rfl (by omega) (by decide) rfl (Nat.le_of_ble_eq_true rfl) rfl (fun v9 P9 hq9 => ?_) (fun i9 P9 hq9 => by cases hq9)
  cases hq9
  refine x_istore dL_law_604 (Nat.le_of_ble_eq_true rfl) ?_
  refine x_aload_nr dL_law_606 rfl ?_
  refine x_aload_n (Or.inr ⟨_, rfl⟩) dL_law_607 rfl ?_
  refine x_iload dL_law_608 rfl ?_
  refine x_iconst 1 dL_law_610 (by decide) ?_
  refine x_iadd dL_law_611 ?_
  obtain ⟨v19, e20, h⟩ := Option.bind_eq_some_iff.mp h
  refine k_rS e20 dL_law_612 ?_
  refine x_aload_n (Or.inr ⟨_, rfl⟩) dL_law_613 rfl ?_
  refine x_iload dL_law_614 rfl ?_
  refine x_iconst 2 dL_law_616 (by decide) ?_
  refine x_iadd dL_law_617 ?_
  obtain ⟨v21, e22, h⟩ := Option.bind_eq_some_iff.mp h
  refine k_rS e22 dL_law_618 ?_
  refine x_aload_n (Or.inr ⟨_, rfl⟩) dL_law_619 rfl ?_
  refine x_iload dL_law_620 rfl ?_
  refine x_iconst 3 dL_law_622 (by decide) ?_
  refine x_iadd dL_law_623 ?_
  obtain ⟨v23, e24, h⟩ := Option.bind_eq_some_iff.mp h
  refine k_rS e24 dL_law_624 ?_
  refine x_aload_n (Or.inr ⟨_, rfl⟩) dL_law_625 rfl ?_
  refine x_iload dL_law_626 rfl ?_
  refine x_iconst 4 dL_law_628 (by decide) ?_
  refine x_iadd dL_law_629 ?_
  obtain ⟨v25, e26, h⟩ := Option.bind_eq_some_iff.mp h
  refine k_rS e26 dL_law_630 ?_
  refine x_aload_n (Or.inr ⟨_, rfl⟩) dL_law_631 rfl ?_
  refine x_iload dL_law_632 rfl ?_
  refine x_iconst 5 dL_law_634 (by decide) ?_
  refine x_iadd dL_law_635 ?_
  obtain ⟨v27, e28, h⟩ := Option.bind_eq_some_iff.mp h
  refine k_rS e28 dL_law_636 ?_
  refine x_aload_n (Or.inr ⟨_, rfl⟩) dL_law_637 rfl ?_
  refine x_iload dL_law_638 rfl ?_
  refine x_bipush 6 dL_law_640 (by decide) ?_
  refine x_iadd dL_law_642 ?_
  obtain ⟨v29, e30, h⟩ := Option.bind_eq_some_iff.mp h
  refine k_rS e30 dL_law_643 ?_
  refine x_aload_n (Or.inr ⟨_, rfl⟩) dL_law_644 rfl ?_
  refine x_iload dL_law_645 rfl ?_
  refine x_bipush 7 dL_law_647 (by decide) ?_
  refine x_iadd dL_law_649 ?_
  obtain ⟨v31, e32, h⟩ := Option.bind_eq_some_iff.mp h
  refine k_rS e32 dL_law_650 ?_
  obtain ⟨_, e37, h⟩ := Option.bind_eq_some_iff.mp h
  obtain ⟨fse37, e37⟩ := kO_ok e37
  obtain ⟨r34, e35, h⟩ := Option.bind_eq_some_iff.mp h
  replace h := xI_ok h
  obtain ⟨v36, P33, rfl, h⟩ := h
  refine x_callV (c_X11_say hl e35) dL_law_651 cw_X11_say wl_L_165 wi_X11_say wse_X11_say rfl e37 (by decide) rfl (by omega) (by decide) rfl (Nat.le_of_ble_eq_true rfl) rfl (fun v9 P9 hq9 => ?_) (fun i9 P9 hq9 => by cases hq9)
  cases hq9
  refine x_istore dL_law_654 (Nat.le_of_ble_eq_true rfl) ?_
  refine x_aload_nr dL_law_656 rfl ?_
  obtain ⟨_, e42, h⟩ := Option.bind_eq_some_iff.mp h
  obtain ⟨fse42, e42⟩ := kO_ok e42
  obtain ⟨r39, e40, h⟩ := Option.bind_eq_some_iff.mp h
  replace h := xI_ok h
  obtain ⟨v41, P38, rfl, h⟩ := h
  refine x_callV (c_X11_thrown hl e40) dL_law_657 cw_X11_thrown wl_L_148 wi_X11_thrown wse_X11_thrown rfl e42 (by decide) rfl (by omega) (by decide) rfl (Nat.le_of_ble_eq_true rfl) rfl (fun v9 P9 hq9 => ?_) (fun i9 P9 hq9 => by cases hq9)
  cases hq9
  refine x_iload dL_law_660 rfl ?_
  refine x_icmp_eq 667 dL_law_662 (by decide) (fun q47 => ?_) (fun q47 => ?_)
  · rw [if_pos q47] at h
    refine x_iload dL_law_667 rfl ?_
    refine x_if_ne 684 dL_law_669 (by decide) (fun q46 => ?_) (fun q46 => ?_)
    · rw [if_pos q46] at h
      refine x_goto 2751 dL_law_684 (by decide) ?_
      exact Wp.mask [true, true, true, true, true, false, false] (hrec 2751 _ _ _ h _ _ rfl _ hQ)
    · rw [if_neg (fun z9 => z9 q46)] at h
      refine x_aload_nr dL_law_672 rfl ?_
      refine x_iconst 0 dL_law_673 (by decide) ?_
      obtain ⟨v43, e44, h⟩ := Option.bind_eq_some_iff.mp h
      refine k_aJ e44 dL_law_674 ?_
      refine x_iload dL_law_675 rfl ?_
      refine x_i2l dL_law_677 ?_
      refine x_lcmp dL_law_678 ?_
      refine x_if_eq 684 dL_law_679 (by decide) (fun q45 => ?_) (fun q45 => ?_)
      · rw [if_pos q45] at h
        refine x_goto 2751 dL_law_684 (by decide) ?_
        exact Wp.mask [true, true, true, true, true, false, false] (hrec 2751 _ _ _ h _ _ rfl _ hQ)
      · rw [if_neg q45] at h
        refine x_iconst 0 dL_law_682 (by decide) ?_
        cases h
        exact x_iret .boolean rfl rfl dL_law_683 hQ
  · rw [if_neg q47] at h
    refine x_iconst 0 dL_law_665 (by decide) ?_
    cases h
    exact x_iret .boolean rfl rfl dL_law_666 hQ
set_option maxHeartbeats 2000000 in
set_option maxRecDepth 20000 in
theorem t_L_law_687 {G : xG} {l : Launch} (hl : l.stackTraces = false) {n : Nat} {rec : Nat → List Value → xH → xO} (hrec : ∀ pc env P z, rec pc env P = some z → ∀ L st, lay_L_law pc env = some (L, st) → ∀ Q : xR → xH → Prop, Q z.1 z.2 → Wp G l 45 mL_law pc L st P Q) {a1 a2 a3 a4} {P : xH} {z : xR × xH} (h : b_L_law_687 n G.2.2.2.2.1 G.2.2.2.2.2 rec a1 a2 a3 a4 P = some z) {Q : xR → xH → Prop} (hQ : Q z.1 z.2) : Wp G l 45 mL_law 687 [some (.retAddr 0), some (.ref a1), some (.ref a2), some (.ref a3), some (.int a4), none, none] [] P Q := by
  unfold b_L_law_687 at h
  refine x_aload_nr dL_law_687 rfl ?_
  refine x_aload_n (Or.inr ⟨_, rfl⟩) dL_law_688 rfl ?_
  refine x_iload dL_law_689 rfl ?_
  refine x_iconst 1 dL_law_691 (by decide) ?_
  refine x_iadd dL_law_692 ?_
  obtain ⟨v1, e2, h⟩ := Option.bind_eq_some_iff.mp h
  refine k_rS e2 dL_law_693 ?_
  refine x_aload_n (Or.inr ⟨_, rfl⟩) dL_law_694 rfl ?_
  refine x_iload dL_law_695 rfl ?_
  refine x_iconst 2 dL_law_697 (by decide) ?_
  refine x_iadd dL_law_698 ?_
  obtain ⟨v3, e4, h⟩ := Option.bind_eq_some_iff.mp h
  refine k_rS e4 dL_law_699 ?_
  refine x_aload_n (Or.inr ⟨_, rfl⟩) dL_law_700 rfl ?_
  refine x_iload dL_law_701 rfl ?_
  refine x_iconst 3 dL_law_703 (by decide) ?_
  refine x_iadd dL_law_704 ?_
  obtain ⟨v5, e6, h⟩ := Option.bind_eq_some_iff.mp h
  refine k_rS e6 dL_law_705 ?_
  refine x_aload_nr dL_law_706 rfl ?_
  obtain ⟨r8, e9, h⟩ := Option.bind_eq_some_iff.mp h
  replace h := xI_ok h
  obtain ⟨v10, P7, rfl, h⟩ := h
  refine x_callSH (c_L_undo hl e9) dL_law_707 ch_L_undo wl_L_166 ws_L_undo rfl (by omega) (by decide) rfl (Nat.le_of_ble_eq_true rfl) rfl (fun v9 P9 hq9 => ?_) (fun i9 P9 hq9 => by cases hq9)
  cases hq9
  refine x_istore dL_law_710 (Nat.le_of_ble_eq_true rfl) ?_
  refine x_aload_nr dL_law_712 rfl ?_
  refine x_aload_n (Or.inr ⟨_, rfl⟩) dL_law_713 rfl ?_
  refine x_iload dL_law_714 rfl ?_
  refine x_iconst 1 dL_law_716 (by decide) ?_
  refine x_iadd dL_law_717 ?_
  obtain ⟨v11, e12, h⟩ := Option.bind_eq_some_iff.mp h
  refine k_rS e12 dL_law_718 ?_
  refine x_aload_n (Or.inr ⟨_, rfl⟩) dL_law_719 rfl ?_
  refine x_iload dL_law_720 rfl ?_
  refine x_iconst 2 dL_law_722 (by decide) ?_
  refine x_iadd dL_law_723 ?_
  obtain ⟨v13, e14, h⟩ := Option.bind_eq_some_iff.mp h
  refine k_rS e14 dL_law_724 ?_
  refine x_aload_n (Or.inr ⟨_, rfl⟩) dL_law_725 rfl ?_
  refine x_iload dL_law_726 rfl ?_
  refine x_iconst 3 dL_law_728 (by decide) ?_
  refine x_iadd dL_law_729 ?_
  obtain ⟨v15, e16, h⟩ := Option.bind_eq_some_iff.mp h
  refine k_rS e16 dL_law_730 ?_
  obtain ⟨_, e21, h⟩ := Option.bind_eq_some_iff.mp h
  obtain ⟨fse21, e21⟩ := kO_ok e21
  obtain ⟨r18, e19, h⟩ := Option.bind_eq_some_iff.mp h
  replace h := xI_ok h
  obtain ⟨v20, P17, rfl, h⟩ := h
  refine x_callV (c_X11_undo hl e19) dL_law_731 cw_X11_undo wl_L_169 wi_X11_undo wse_X11_undo rfl e21 (by decide) rfl (by omega) (by decide) rfl (Nat.le_of_ble_eq_true rfl) rfl (fun v9 P9 hq9 => ?_) (fun i9 P9 hq9 => by cases hq9)
  cases hq9
  refine x_istore dL_law_734 (Nat.le_of_ble_eq_true rfl) ?_
  refine x_aload_nr dL_law_736 rfl ?_
  obtain ⟨_, e26, h⟩ := Option.bind_eq_some_iff.mp h
  obtain ⟨fse26, e26⟩ := kO_ok e26
  obtain ⟨r23, e24, h⟩ := Option.bind_eq_some_iff.mp h
  replace h := xI_ok h
  obtain ⟨v25, P22, rfl, h⟩ := h
  refine x_callV (c_X11_thrown hl e24) dL_law_737 cw_X11_thrown wl_L_148 wi_X11_thrown wse_X11_thrown rfl e26 (by decide) rfl (by omega) (by decide) rfl (Nat.le_of_ble_eq_true rfl) rfl (fun v9 P9 hq9 => ?_) (fun i9 P9 hq9 => by cases hq9)
  cases hq9
  refine x_iload dL_law_740 rfl ?_
  refine x_icmp_eq 747 dL_law_742 (by decide) (fun q31 => ?_) (fun q31 => ?_)
  · rw [if_pos q31] at h
    refine x_iload dL_law_747 rfl ?_
    refine x_if_ne 764 dL_law_749 (by decide) (fun q30 => ?_) (fun q30 => ?_)
    · rw [if_pos q30] at h
      refine x_goto 2751 dL_law_764 (by decide) ?_
      exact Wp.mask [true, true, true, true, true, false, false] (hrec 2751 _ _ _ h _ _ rfl _ hQ)
    · rw [if_neg (fun z9 => z9 q30)] at h
      refine x_aload_nr dL_law_752 rfl ?_
      refine x_iconst 0 dL_law_753 (by decide) ?_
      obtain ⟨v27, e28, h⟩ := Option.bind_eq_some_iff.mp h
      refine k_aJ e28 dL_law_754 ?_
      refine x_iload dL_law_755 rfl ?_
      refine x_i2l dL_law_757 ?_
      refine x_lcmp dL_law_758 ?_
      refine x_if_eq 764 dL_law_759 (by decide) (fun q29 => ?_) (fun q29 => ?_)
      · rw [if_pos q29] at h
        refine x_goto 2751 dL_law_764 (by decide) ?_
        exact Wp.mask [true, true, true, true, true, false, false] (hrec 2751 _ _ _ h _ _ rfl _ hQ)
      · rw [if_neg q29] at h
        refine x_iconst 0 dL_law_762 (by decide) ?_
        cases h
        exact x_iret .boolean rfl rfl dL_law_763 hQ
  · rw [if_neg q31] at h
    refine x_iconst 0 dL_law_745 (by decide) ?_
    cases h
    exact x_iret .boolean rfl rfl dL_law_746 hQ
set_option maxHeartbeats 2000000 in
set_option maxRecDepth 20000 in
theorem t_L_law_767 {G : xG} {l : Launch} (hl : l.stackTraces = false) {n : Nat} {rec : Nat → List Value → xH → xO} (hrec : ∀ pc env P z, rec pc env P = some z → ∀ L st, lay_L_law pc env = some (L, st) → ∀ Q : xR → xH → Prop, Q z.1 z.2 → Wp G l 45 mL_law pc L st P Q) {a1 a2 a3 a4} {P : xH} {z : xR × xH} (h : b_L_law_767 n G.2.2.2.2.1 G.2.2.2.2.2 rec a1 a2 a3 a4 P = some z) {Q : xR → xH → Prop} (hQ : Q z.1 z.2) : Wp G l 45 mL_law 767 [some (.retAddr 0), some (.ref a1), some (.ref a2), some (.ref a3), some (.int a4), none, none] [] P Q := by
  unfold b_L_law_767 at h
  refine x_aload_nr dL_law_767 rfl ?_
  refine x_aload_n (Or.inr ⟨_, rfl⟩) dL_law_768 rfl ?_
  refine x_iload dL_law_769 rfl ?_
  refine x_iconst 1 dL_law_771 (by decide) ?_
  refine x_iadd dL_law_772 ?_
  obtain ⟨v1, e2, h⟩ := Option.bind_eq_some_iff.mp h
  refine k_rS e2 dL_law_773 ?_
  refine x_aload_nr dL_law_774 rfl ?_
  obtain ⟨r4, e5, h⟩ := Option.bind_eq_some_iff.mp h
  replace h := xI_ok h
  obtain ⟨v6, P3, rfl, h⟩ := h
  refine x_callSH (c_L_ticks hl e5) dL_law_775 ch_L_ticks wl_L_170 ws_L_ticks rfl (by omega) (by decide) rfl (Nat.le_of_ble_eq_true rfl) rfl (fun v9 P9 hq9 => ?_) (fun i9 P9 hq9 => by cases hq9)
  cases hq9
  refine x_istore dL_law_778 (Nat.le_of_ble_eq_true rfl) ?_
  refine x_aload_nr dL_law_780 rfl ?_
  refine x_aload_n (Or.inr ⟨_, rfl⟩) dL_law_781 rfl ?_
  refine x_iload dL_law_782 rfl ?_
  refine x_iconst 1 dL_law_784 (by decide) ?_
  refine x_iadd dL_law_785 ?_
  obtain ⟨v7, e8, h⟩ := Option.bind_eq_some_iff.mp h
  refine k_rS e8 dL_law_786 ?_
  obtain ⟨_, e13, h⟩ := Option.bind_eq_some_iff.mp h
  obtain ⟨fse13, e13⟩ := kO_ok e13
  obtain ⟨r10, e11, h⟩ := Option.bind_eq_some_iff.mp h
  replace h := xI_ok h
  obtain ⟨v12, P9, rfl, h⟩ := h
  refine x_callV (c_X11_ticks hl e11) dL_law_787 cw_X11_ticks wl_L_173 wi_X11_ticks wse_X11_ticks rfl e13 (by decide) rfl (by omega) (by decide) rfl (Nat.le_of_ble_eq_true rfl) rfl (fun v9 P9 hq9 => ?_) (fun i9 P9 hq9 => by cases hq9)
  cases hq9
  refine x_istore dL_law_790 (Nat.le_of_ble_eq_true rfl) ?_
  refine x_aload_nr dL_law_792 rfl ?_
  obtain ⟨_, e18, h⟩ := Option.bind_eq_some_iff.mp h
  obtain ⟨fse18, e18⟩ := kO_ok e18
  obtain ⟨r15, e16, h⟩ := Option.bind_eq_some_iff.mp h
  replace h := xI_ok h
  obtain ⟨v17, P14, rfl, h⟩ := h
  refine x_callV (c_X11_thrown hl e16) dL_law_793 cw_X11_thrown wl_L_148 wi_X11_thrown wse_X11_thrown rfl e18 (by decide) rfl (by omega) (by decide) rfl (Nat.le_of_ble_eq_true rfl) rfl (fun v9 P9 hq9 => ?_) (fun i9 P9 hq9 => by cases hq9)
  cases hq9
  refine x_iload dL_law_796 rfl ?_
  refine x_icmp_eq 803 dL_law_798 (by decide) (fun q23 => ?_) (fun q23 => ?_)
  · rw [if_pos q23] at h
    refine x_iload dL_law_803 rfl ?_
    refine x_if_ne 820 dL_law_805 (by decide) (fun q22 => ?_) (fun q22 => ?_)
    · rw [if_pos q22] at h
      refine x_goto 2751 dL_law_820 (by decide) ?_
      exact Wp.mask [true, true, true, true, true, false, false] (hrec 2751 _ _ _ h _ _ rfl _ hQ)
    · rw [if_neg (fun z9 => z9 q22)] at h
      refine x_aload_nr dL_law_808 rfl ?_
      refine x_iconst 0 dL_law_809 (by decide) ?_
      obtain ⟨v19, e20, h⟩ := Option.bind_eq_some_iff.mp h
      refine k_aJ e20 dL_law_810 ?_
      refine x_iload dL_law_811 rfl ?_
      refine x_i2l dL_law_813 ?_
      refine x_lcmp dL_law_814 ?_
      refine x_if_eq 820 dL_law_815 (by decide) (fun q21 => ?_) (fun q21 => ?_)
      · rw [if_pos q21] at h
        refine x_goto 2751 dL_law_820 (by decide) ?_
        exact Wp.mask [true, true, true, true, true, false, false] (hrec 2751 _ _ _ h _ _ rfl _ hQ)
      · rw [if_neg q21] at h
        refine x_iconst 0 dL_law_818 (by decide) ?_
        cases h
        exact x_iret .boolean rfl rfl dL_law_819 hQ
  · rw [if_neg q23] at h
    refine x_iconst 0 dL_law_801 (by decide) ?_
    cases h
    exact x_iret .boolean rfl rfl dL_law_802 hQ
set_option maxHeartbeats 2000000 in
set_option maxRecDepth 20000 in
theorem t_L_law_823 {G : xG} {l : Launch} (hl : l.stackTraces = false) {n : Nat} {rec : Nat → List Value → xH → xO} (hrec : ∀ pc env P z, rec pc env P = some z → ∀ L st, lay_L_law pc env = some (L, st) → ∀ Q : xR → xH → Prop, Q z.1 z.2 → Wp G l 45 mL_law pc L st P Q) {a1 a2 a3 a4} {P : xH} {z : xR × xH} (h : b_L_law_823 n G.2.2.2.2.1 G.2.2.2.2.2 rec a1 a2 a3 a4 P = some z) {Q : xR → xH → Prop} (hQ : Q z.1 z.2) : Wp G l 45 mL_law 823 [some (.retAddr 0), some (.ref a1), some (.ref a2), some (.ref a3), some (.int a4), none, none] [] P Q := by
  unfold b_L_law_823 at h
  refine x_aload_nr dL_law_823 rfl ?_
  refine x_aload_n (Or.inr ⟨_, rfl⟩) dL_law_824 rfl ?_
  refine x_iload dL_law_825 rfl ?_
  refine x_iconst 1 dL_law_827 (by decide) ?_
  refine x_iadd dL_law_828 ?_
  obtain ⟨v1, e2, h⟩ := Option.bind_eq_some_iff.mp h
  refine k_rS e2 dL_law_829 ?_
  refine x_aload_n (Or.inr ⟨_, rfl⟩) dL_law_830 rfl ?_
  refine x_iload dL_law_831 rfl ?_
  refine x_iconst 2 dL_law_833 (by decide) ?_
  refine x_iadd dL_law_834 ?_
  obtain ⟨v3, e4, h⟩ := Option.bind_eq_some_iff.mp h
  refine k_rS e4 dL_law_835 ?_
  refine x_aload_nr dL_law_836 rfl ?_
  obtain ⟨r6, e7, h⟩ := Option.bind_eq_some_iff.mp h
  replace h := xI_ok h
  obtain ⟨v8, P5, rfl, h⟩ := h
  refine x_callSH (c_L_look hl e7) dL_law_837 ch_L_look wl_L_174 ws_L_look rfl (by omega) (by decide) rfl (Nat.le_of_ble_eq_true rfl) rfl (fun v9 P9 hq9 => ?_) (fun i9 P9 hq9 => by cases hq9)
  cases hq9
  refine x_istore dL_law_840 (Nat.le_of_ble_eq_true rfl) ?_
  refine x_aload_nr dL_law_842 rfl ?_
  refine x_aload_n (Or.inr ⟨_, rfl⟩) dL_law_843 rfl ?_
  refine x_iload dL_law_844 rfl ?_
  refine x_iconst 1 dL_law_846 (by decide) ?_
  refine x_iadd dL_law_847 ?_
  obtain ⟨v9, e10, h⟩ := Option.bind_eq_some_iff.mp h
  refine k_rS e10 dL_law_848 ?_
  refine x_aload_n (Or.inr ⟨_, rfl⟩) dL_law_849 rfl ?_
  refine x_iload dL_law_850 rfl ?_
  refine x_iconst 2 dL_law_852 (by decide) ?_
  refine x_iadd dL_law_853 ?_
  obtain ⟨v11, e12, h⟩ := Option.bind_eq_some_iff.mp h
  refine k_rS e12 dL_law_854 ?_
  obtain ⟨_, e17, h⟩ := Option.bind_eq_some_iff.mp h
  obtain ⟨fse17, e17⟩ := kO_ok e17
  obtain ⟨r14, e15, h⟩ := Option.bind_eq_some_iff.mp h
  replace h := xI_ok h
  obtain ⟨v16, P13, rfl, h⟩ := h
  refine x_callV (c_X11_look hl e15) dL_law_855 cw_X11_look wl_L_177 wi_X11_look wse_X11_look rfl e17 (by decide) rfl (by omega) (by decide) rfl (Nat.le_of_ble_eq_true rfl) rfl (fun v9 P9 hq9 => ?_) (fun i9 P9 hq9 => by cases hq9)
  cases hq9
  refine x_istore dL_law_858 (Nat.le_of_ble_eq_true rfl) ?_
  refine x_aload_nr dL_law_860 rfl ?_
  obtain ⟨_, e22, h⟩ := Option.bind_eq_some_iff.mp h
  obtain ⟨fse22, e22⟩ := kO_ok e22
  obtain ⟨r19, e20, h⟩ := Option.bind_eq_some_iff.mp h
  replace h := xI_ok h
  obtain ⟨v21, P18, rfl, h⟩ := h
  refine x_callV (c_X11_thrown hl e20) dL_law_861 cw_X11_thrown wl_L_148 wi_X11_thrown wse_X11_thrown rfl e22 (by decide) rfl (by omega) (by decide) rfl (Nat.le_of_ble_eq_true rfl) rfl (fun v9 P9 hq9 => ?_) (fun i9 P9 hq9 => by cases hq9)
  cases hq9
  refine x_iload dL_law_864 rfl ?_
  refine x_icmp_eq 871 dL_law_866 (by decide) (fun q27 => ?_) (fun q27 => ?_)
  · rw [if_pos q27] at h
    refine x_iload dL_law_871 rfl ?_
    refine x_if_ne 888 dL_law_873 (by decide) (fun q26 => ?_) (fun q26 => ?_)
    · rw [if_pos q26] at h
      refine x_goto 2751 dL_law_888 (by decide) ?_
      exact Wp.mask [true, true, true, true, true, false, false] (hrec 2751 _ _ _ h _ _ rfl _ hQ)
    · rw [if_neg (fun z9 => z9 q26)] at h
      refine x_aload_nr dL_law_876 rfl ?_
      refine x_iconst 0 dL_law_877 (by decide) ?_
      obtain ⟨v23, e24, h⟩ := Option.bind_eq_some_iff.mp h
      refine k_aJ e24 dL_law_878 ?_
      refine x_iload dL_law_879 rfl ?_
      refine x_i2l dL_law_881 ?_
      refine x_lcmp dL_law_882 ?_
      refine x_if_eq 888 dL_law_883 (by decide) (fun q25 => ?_) (fun q25 => ?_)
      · rw [if_pos q25] at h
        refine x_goto 2751 dL_law_888 (by decide) ?_
        exact Wp.mask [true, true, true, true, true, false, false] (hrec 2751 _ _ _ h _ _ rfl _ hQ)
      · rw [if_neg q25] at h
        refine x_iconst 0 dL_law_886 (by decide) ?_
        cases h
        exact x_iret .boolean rfl rfl dL_law_887 hQ
  · rw [if_neg q27] at h
    refine x_iconst 0 dL_law_869 (by decide) ?_
    cases h
    exact x_iret .boolean rfl rfl dL_law_870 hQ
set_option maxHeartbeats 2000000 in
set_option maxRecDepth 20000 in
theorem t_L_law_891 {G : xG} {l : Launch} (hl : l.stackTraces = false) {n : Nat} {rec : Nat → List Value → xH → xO} (hrec : ∀ pc env P z, rec pc env P = some z → ∀ L st, lay_L_law pc env = some (L, st) → ∀ Q : xR → xH → Prop, Q z.1 z.2 → Wp G l 45 mL_law pc L st P Q) {a1 a2 a3 a4} {P : xH} {z : xR × xH} (h : b_L_law_891 n G.2.2.2.2.1 G.2.2.2.2.2 rec a1 a2 a3 a4 P = some z) {Q : xR → xH → Prop} (hQ : Q z.1 z.2) : Wp G l 45 mL_law 891 [some (.retAddr 0), some (.ref a1), some (.ref a2), some (.ref a3), some (.int a4), none, none] [] P Q := by
  unfold b_L_law_891 at h
  refine x_aload_nr dL_law_891 rfl ?_
  refine x_aload_n (Or.inr ⟨_, rfl⟩) dL_law_892 rfl ?_
  refine x_iload dL_law_893 rfl ?_
  refine x_iconst 1 dL_law_895 (by decide) ?_
  refine x_iadd dL_law_896 ?_
  obtain ⟨v1, e2, h⟩ := Option.bind_eq_some_iff.mp h
  refine k_rS e2 dL_law_897 ?_
  refine x_aload_n (Or.inr ⟨_, rfl⟩) dL_law_898 rfl ?_
  refine x_iload dL_law_899 rfl ?_
  refine x_iconst 2 dL_law_901 (by decide) ?_
  refine x_iadd dL_law_902 ?_
  obtain ⟨v3, e4, h⟩ := Option.bind_eq_some_iff.mp h
  refine k_rS e4 dL_law_903 ?_
  refine x_aload_n (Or.inr ⟨_, rfl⟩) dL_law_904 rfl ?_
  refine x_iload dL_law_905 rfl ?_
  refine x_iconst 3 dL_law_907 (by decide) ?_
  refine x_iadd dL_law_908 ?_
  obtain ⟨v5, e6, h⟩ := Option.bind_eq_some_iff.mp h
  refine k_rS e6 dL_law_909 ?_
  refine x_aload_nr dL_law_910 rfl ?_
  obtain ⟨r8, e9, h⟩ := Option.bind_eq_some_iff.mp h
  replace h := xI_ok h
  obtain ⟨v10, P7, rfl, h⟩ := h
  refine x_callSH (c_L_copy hl e9) dL_law_911 ch_L_copy wl_L_178 ws_L_copy rfl (by omega) (by decide) rfl (Nat.le_of_ble_eq_true rfl) rfl (fun v9 P9 hq9 => ?_) (fun i9 P9 hq9 => by cases hq9)
  cases hq9
  refine x_istore dL_law_914 (Nat.le_of_ble_eq_true rfl) ?_
  refine x_aload_nr dL_law_916 rfl ?_
  refine x_aload_n (Or.inr ⟨_, rfl⟩) dL_law_917 rfl ?_
  refine x_iload dL_law_918 rfl ?_
  refine x_iconst 1 dL_law_920 (by decide) ?_
  refine x_iadd dL_law_921 ?_
  obtain ⟨v11, e12, h⟩ := Option.bind_eq_some_iff.mp h
  refine k_rS e12 dL_law_922 ?_
  refine x_aload_n (Or.inr ⟨_, rfl⟩) dL_law_923 rfl ?_
  refine x_iload dL_law_924 rfl ?_
  refine x_iconst 2 dL_law_926 (by decide) ?_
  refine x_iadd dL_law_927 ?_
  obtain ⟨v13, e14, h⟩ := Option.bind_eq_some_iff.mp h
  refine k_rS e14 dL_law_928 ?_
  refine x_aload_n (Or.inr ⟨_, rfl⟩) dL_law_929 rfl ?_
  refine x_iload dL_law_930 rfl ?_
  refine x_iconst 3 dL_law_932 (by decide) ?_
  refine x_iadd dL_law_933 ?_
  obtain ⟨v15, e16, h⟩ := Option.bind_eq_some_iff.mp h
  refine k_rS e16 dL_law_934 ?_
  obtain ⟨_, e21, h⟩ := Option.bind_eq_some_iff.mp h
  obtain ⟨fse21, e21⟩ := kO_ok e21
  obtain ⟨r18, e19, h⟩ := Option.bind_eq_some_iff.mp h
  replace h := xI_ok h
  obtain ⟨v20, P17, rfl, h⟩ := h
  refine x_callV (c_X11_copy hl e19) dL_law_935 cw_X11_copy wl_L_180 wi_X11_copy wse_X11_copy rfl e21 (by decide) rfl (by omega) (by decide) rfl (Nat.le_of_ble_eq_true rfl) rfl (fun v9 P9 hq9 => ?_) (fun i9 P9 hq9 => by cases hq9)
  cases hq9
  refine x_istore dL_law_938 (Nat.le_of_ble_eq_true rfl) ?_
  refine x_aload_nr dL_law_940 rfl ?_
  obtain ⟨_, e26, h⟩ := Option.bind_eq_some_iff.mp h
  obtain ⟨fse26, e26⟩ := kO_ok e26
  obtain ⟨r23, e24, h⟩ := Option.bind_eq_some_iff.mp h
  replace h := xI_ok h
  obtain ⟨v25, P22, rfl, h⟩ := h
  refine x_callV (c_X11_thrown hl e24) dL_law_941 cw_X11_thrown wl_L_148 wi_X11_thrown wse_X11_thrown rfl e26 (by decide) rfl (by omega) (by decide) rfl (Nat.le_of_ble_eq_true rfl) rfl (fun v9 P9 hq9 => ?_) (fun i9 P9 hq9 => by cases hq9)
  cases hq9
  refine x_iload dL_law_944 rfl ?_
  refine x_icmp_eq 951 dL_law_946 (by decide) (fun q31 => ?_) (fun q31 => ?_)
  · rw [if_pos q31] at h
    refine x_iload dL_law_951 rfl ?_
    refine x_if_ne 968 dL_law_953 (by decide) (fun q30 => ?_) (fun q30 => ?_)
    · rw [if_pos q30] at h
      refine x_goto 2751 dL_law_968 (by decide) ?_
      exact Wp.mask [true, true, true, true, true, false, false] (hrec 2751 _ _ _ h _ _ rfl _ hQ)
    · rw [if_neg (fun z9 => z9 q30)] at h
      refine x_aload_nr dL_law_956 rfl ?_
      refine x_iconst 0 dL_law_957 (by decide) ?_
      obtain ⟨v27, e28, h⟩ := Option.bind_eq_some_iff.mp h
      refine k_aJ e28 dL_law_958 ?_
      refine x_iload dL_law_959 rfl ?_
      refine x_i2l dL_law_961 ?_
      refine x_lcmp dL_law_962 ?_
      refine x_if_eq 968 dL_law_963 (by decide) (fun q29 => ?_) (fun q29 => ?_)
      · rw [if_pos q29] at h
        refine x_goto 2751 dL_law_968 (by decide) ?_
        exact Wp.mask [true, true, true, true, true, false, false] (hrec 2751 _ _ _ h _ _ rfl _ hQ)
      · rw [if_neg q29] at h
        refine x_iconst 0 dL_law_966 (by decide) ?_
        cases h
        exact x_iret .boolean rfl rfl dL_law_967 hQ
  · rw [if_neg q31] at h
    refine x_iconst 0 dL_law_949 (by decide) ?_
    cases h
    exact x_iret .boolean rfl rfl dL_law_950 hQ
set_option maxHeartbeats 2000000 in
set_option maxRecDepth 20000 in
theorem t_L_law_971 {G : xG} {l : Launch} (hl : l.stackTraces = false) {n : Nat} {rec : Nat → List Value → xH → xO} (hrec : ∀ pc env P z, rec pc env P = some z → ∀ L st, lay_L_law pc env = some (L, st) → ∀ Q : xR → xH → Prop, Q z.1 z.2 → Wp G l 45 mL_law pc L st P Q) {a1 a2 a3 a4} {P : xH} {z : xR × xH} (h : b_L_law_971 n G.2.2.2.2.1 G.2.2.2.2.2 rec a1 a2 a3 a4 P = some z) {Q : xR → xH → Prop} (hQ : Q z.1 z.2) : Wp G l 45 mL_law 971 [some (.retAddr 0), some (.ref a1), some (.ref a2), some (.ref a3), some (.int a4), none, none] [] P Q := by
  unfold b_L_law_971 at h
  refine x_aload_nr dL_law_971 rfl ?_
  refine x_aload_n (Or.inr ⟨_, rfl⟩) dL_law_972 rfl ?_
  refine x_iload dL_law_973 rfl ?_
  refine x_iconst 1 dL_law_975 (by decide) ?_
  refine x_iadd dL_law_976 ?_
  obtain ⟨v1, e2, h⟩ := Option.bind_eq_some_iff.mp h
  refine k_rS e2 dL_law_977 ?_
  refine x_aload_n (Or.inr ⟨_, rfl⟩) dL_law_978 rfl ?_
  refine x_iload dL_law_979 rfl ?_
  refine x_iconst 2 dL_law_981 (by decide) ?_
  refine x_iadd dL_law_982 ?_
  obtain ⟨v3, e4, h⟩ := Option.bind_eq_some_iff.mp h
  refine k_rS e4 dL_law_983 ?_
  refine x_aload_nr dL_law_984 rfl ?_
  obtain ⟨r6, e7, h⟩ := Option.bind_eq_some_iff.mp h
  replace h := xI_ok h
  obtain ⟨v8, P5, rfl, h⟩ := h
  refine x_callSH (c_L_word hl e7) dL_law_985 ch_L_word wl_L_181 ws_L_word rfl (by omega) (by decide) rfl (Nat.le_of_ble_eq_true rfl) rfl (fun v9 P9 hq9 => ?_) (fun i9 P9 hq9 => by cases hq9)
  cases hq9
  refine x_istore dL_law_988 (Nat.le_of_ble_eq_true rfl) ?_
  refine x_aload_nr dL_law_990 rfl ?_
  refine x_aload_n (Or.inr ⟨_, rfl⟩) dL_law_991 rfl ?_
  refine x_iload dL_law_992 rfl ?_
  refine x_iconst 1 dL_law_994 (by decide) ?_
  refine x_iadd dL_law_995 ?_
  obtain ⟨v9, e10, h⟩ := Option.bind_eq_some_iff.mp h
  refine k_rS e10 dL_law_996 ?_
  refine x_aload_n (Or.inr ⟨_, rfl⟩) dL_law_997 rfl ?_
  refine x_iload dL_law_998 rfl ?_
  refine x_iconst 2 dL_law_1000 (by decide) ?_
  refine x_iadd dL_law_1001 ?_
  obtain ⟨v11, e12, h⟩ := Option.bind_eq_some_iff.mp h
  refine k_rS e12 dL_law_1002 ?_
  obtain ⟨_, e17, h⟩ := Option.bind_eq_some_iff.mp h
  obtain ⟨fse17, e17⟩ := kO_ok e17
  obtain ⟨r14, e15, h⟩ := Option.bind_eq_some_iff.mp h
  replace h := xI_ok h
  obtain ⟨v16, P13, rfl, h⟩ := h
  refine x_callV (c_X11_word hl e15) dL_law_1003 cw_X11_word wl_L_183 wi_X11_word wse_X11_word rfl e17 (by decide) rfl (by omega) (by decide) rfl (Nat.le_of_ble_eq_true rfl) rfl (fun v9 P9 hq9 => ?_) (fun i9 P9 hq9 => by cases hq9)
  cases hq9
  refine x_istore dL_law_1006 (Nat.le_of_ble_eq_true rfl) ?_
  refine x_aload_nr dL_law_1008 rfl ?_
  obtain ⟨_, e22, h⟩ := Option.bind_eq_some_iff.mp h
  obtain ⟨fse22, e22⟩ := kO_ok e22
  obtain ⟨r19, e20, h⟩ := Option.bind_eq_some_iff.mp h
  replace h := xI_ok h
  obtain ⟨v21, P18, rfl, h⟩ := h
  refine x_callV (c_X11_thrown hl e20) dL_law_1009 cw_X11_thrown wl_L_148 wi_X11_thrown wse_X11_thrown rfl e22 (by decide) rfl (by omega) (by decide) rfl (Nat.le_of_ble_eq_true rfl) rfl (fun v9 P9 hq9 => ?_) (fun i9 P9 hq9 => by cases hq9)
  cases hq9
  refine x_iload dL_law_1012 rfl ?_
  refine x_icmp_eq 1019 dL_law_1014 (by decide) (fun q27 => ?_) (fun q27 => ?_)
  · rw [if_pos q27] at h
    refine x_iload dL_law_1019 rfl ?_
    refine x_if_ne 1036 dL_law_1021 (by decide) (fun q26 => ?_) (fun q26 => ?_)
    · rw [if_pos q26] at h
      refine x_goto 2751 dL_law_1036 (by decide) ?_
      exact Wp.mask [true, true, true, true, true, false, false] (hrec 2751 _ _ _ h _ _ rfl _ hQ)
    · rw [if_neg (fun z9 => z9 q26)] at h
      refine x_aload_nr dL_law_1024 rfl ?_
      refine x_iconst 0 dL_law_1025 (by decide) ?_
      obtain ⟨v23, e24, h⟩ := Option.bind_eq_some_iff.mp h
      refine k_aJ e24 dL_law_1026 ?_
      refine x_iload dL_law_1027 rfl ?_
      refine x_i2l dL_law_1029 ?_
      refine x_lcmp dL_law_1030 ?_
      refine x_if_eq 1036 dL_law_1031 (by decide) (fun q25 => ?_) (fun q25 => ?_)
      · rw [if_pos q25] at h
        refine x_goto 2751 dL_law_1036 (by decide) ?_
        exact Wp.mask [true, true, true, true, true, false, false] (hrec 2751 _ _ _ h _ _ rfl _ hQ)
      · rw [if_neg q25] at h
        refine x_iconst 0 dL_law_1034 (by decide) ?_
        cases h
        exact x_iret .boolean rfl rfl dL_law_1035 hQ
  · rw [if_neg q27] at h
    refine x_iconst 0 dL_law_1017 (by decide) ?_
    cases h
    exact x_iret .boolean rfl rfl dL_law_1018 hQ
set_option maxHeartbeats 2000000 in
set_option maxRecDepth 20000 in
theorem t_L_law_1039 {G : xG} {l : Launch} (hl : l.stackTraces = false) {n : Nat} {rec : Nat → List Value → xH → xO} (hrec : ∀ pc env P z, rec pc env P = some z → ∀ L st, lay_L_law pc env = some (L, st) → ∀ Q : xR → xH → Prop, Q z.1 z.2 → Wp G l 45 mL_law pc L st P Q) {a1 a2 a3 a4} {P : xH} {z : xR × xH} (h : b_L_law_1039 n G.2.2.2.2.1 G.2.2.2.2.2 rec a1 a2 a3 a4 P = some z) {Q : xR → xH → Prop} (hQ : Q z.1 z.2) : Wp G l 45 mL_law 1039 [some (.retAddr 0), some (.ref a1), some (.ref a2), some (.ref a3), some (.int a4), none, none] [] P Q := by
  unfold b_L_law_1039 at h
  refine x_aload_nr dL_law_1039 rfl ?_
  refine x_aload_n (Or.inr ⟨_, rfl⟩) dL_law_1040 rfl ?_
  refine x_iload dL_law_1041 rfl ?_
  refine x_iconst 1 dL_law_1043 (by decide) ?_
  refine x_iadd dL_law_1044 ?_
  obtain ⟨v1, e2, h⟩ := Option.bind_eq_some_iff.mp h
  refine k_rS e2 dL_law_1045 ?_
  refine x_aload_nr dL_law_1046 rfl ?_
  obtain ⟨r4, e5, h⟩ := Option.bind_eq_some_iff.mp h
  replace h := xI_ok h
  obtain ⟨v6, P3, rfl, h⟩ := h
  refine x_callSH (c_L_had hl e5) dL_law_1047 ch_L_had wl_L_184 ws_L_had rfl (by omega) (by decide) rfl (Nat.le_of_ble_eq_true rfl) rfl (fun v9 P9 hq9 => ?_) (fun i9 P9 hq9 => by cases hq9)
  cases hq9
  refine x_istore dL_law_1050 (Nat.le_of_ble_eq_true rfl) ?_
  refine x_aload_nr dL_law_1052 rfl ?_
  refine x_aload_n (Or.inr ⟨_, rfl⟩) dL_law_1053 rfl ?_
  refine x_iload dL_law_1054 rfl ?_
  refine x_iconst 1 dL_law_1056 (by decide) ?_
  refine x_iadd dL_law_1057 ?_
  obtain ⟨v7, e8, h⟩ := Option.bind_eq_some_iff.mp h
  refine k_rS e8 dL_law_1058 ?_
  obtain ⟨_, e13, h⟩ := Option.bind_eq_some_iff.mp h
  obtain ⟨fse13, e13⟩ := kO_ok e13
  obtain ⟨r10, e11, h⟩ := Option.bind_eq_some_iff.mp h
  replace h := xI_ok h
  obtain ⟨v12, P9, rfl, h⟩ := h
  refine x_callV (c_X11_had hl e11) dL_law_1059 cw_X11_had wl_L_186 wi_X11_had wse_X11_had rfl e13 (by decide) rfl (by omega) (by decide) rfl (Nat.le_of_ble_eq_true rfl) rfl (fun v9 P9 hq9 => ?_) (fun i9 P9 hq9 => by cases hq9)
  cases hq9
  refine x_istore dL_law_1062 (Nat.le_of_ble_eq_true rfl) ?_
  refine x_aload_nr dL_law_1064 rfl ?_
  obtain ⟨_, e18, h⟩ := Option.bind_eq_some_iff.mp h
  obtain ⟨fse18, e18⟩ := kO_ok e18
  obtain ⟨r15, e16, h⟩ := Option.bind_eq_some_iff.mp h
  replace h := xI_ok h
  obtain ⟨v17, P14, rfl, h⟩ := h
  refine x_callV (c_X11_thrown hl e16) dL_law_1065 cw_X11_thrown wl_L_148 wi_X11_thrown wse_X11_thrown rfl e18 (by decide) rfl (by omega) (by decide) rfl (Nat.le_of_ble_eq_true rfl) rfl (fun v9 P9 hq9 => ?_) (fun i9 P9 hq9 => by cases hq9)
  cases hq9
  refine x_iload dL_law_1068 rfl ?_
  refine x_icmp_eq 1075 dL_law_1070 (by decide) (fun q23 => ?_) (fun q23 => ?_)
  · rw [if_pos q23] at h
    refine x_iload dL_law_1075 rfl ?_
    refine x_if_ne 1092 dL_law_1077 (by decide) (fun q22 => ?_) (fun q22 => ?_)
    · rw [if_pos q22] at h
      refine x_goto 2751 dL_law_1092 (by decide) ?_
      exact Wp.mask [true, true, true, true, true, false, false] (hrec 2751 _ _ _ h _ _ rfl _ hQ)
    · rw [if_neg (fun z9 => z9 q22)] at h
      refine x_aload_nr dL_law_1080 rfl ?_
      refine x_iconst 0 dL_law_1081 (by decide) ?_
      obtain ⟨v19, e20, h⟩ := Option.bind_eq_some_iff.mp h
      refine k_aJ e20 dL_law_1082 ?_
      refine x_iload dL_law_1083 rfl ?_
      refine x_i2l dL_law_1085 ?_
      refine x_lcmp dL_law_1086 ?_
      refine x_if_eq 1092 dL_law_1087 (by decide) (fun q21 => ?_) (fun q21 => ?_)
      · rw [if_pos q21] at h
        refine x_goto 2751 dL_law_1092 (by decide) ?_
        exact Wp.mask [true, true, true, true, true, false, false] (hrec 2751 _ _ _ h _ _ rfl _ hQ)
      · rw [if_neg q21] at h
        refine x_iconst 0 dL_law_1090 (by decide) ?_
        cases h
        exact x_iret .boolean rfl rfl dL_law_1091 hQ
  · rw [if_neg q23] at h
    refine x_iconst 0 dL_law_1073 (by decide) ?_
    cases h
    exact x_iret .boolean rfl rfl dL_law_1074 hQ
set_option maxHeartbeats 2000000 in
set_option maxRecDepth 20000 in
theorem t_L_law_1095 {G : xG} {l : Launch} (hl : l.stackTraces = false) {n : Nat} {rec : Nat → List Value → xH → xO} (hrec : ∀ pc env P z, rec pc env P = some z → ∀ L st, lay_L_law pc env = some (L, st) → ∀ Q : xR → xH → Prop, Q z.1 z.2 → Wp G l 45 mL_law pc L st P Q) {a1 a2 a3 a4} {P : xH} {z : xR × xH} (h : b_L_law_1095 n G.2.2.2.2.1 G.2.2.2.2.2 rec a1 a2 a3 a4 P = some z) {Q : xR → xH → Prop} (hQ : Q z.1 z.2) : Wp G l 45 mL_law 1095 [some (.retAddr 0), some (.ref a1), some (.ref a2), some (.ref a3), some (.int a4), none, none] [] P Q := by
  unfold b_L_law_1095 at h
  refine x_aload_nr dL_law_1095 rfl ?_
  refine x_aload_n (Or.inr ⟨_, rfl⟩) dL_law_1096 rfl ?_
  refine x_iload dL_law_1097 rfl ?_
  refine x_iconst 1 dL_law_1099 (by decide) ?_
  refine x_iadd dL_law_1100 ?_
  obtain ⟨v1, e2, h⟩ := Option.bind_eq_some_iff.mp h
  refine k_rS e2 dL_law_1101 ?_
  refine x_aload_n (Or.inr ⟨_, rfl⟩) dL_law_1102 rfl ?_
  refine x_iload dL_law_1103 rfl ?_
  refine x_iconst 2 dL_law_1105 (by decide) ?_
  refine x_iadd dL_law_1106 ?_
  obtain ⟨v3, e4, h⟩ := Option.bind_eq_some_iff.mp h
  refine k_rS e4 dL_law_1107 ?_
  refine x_aload_nr dL_law_1108 rfl ?_
  obtain ⟨r6, e7, h⟩ := Option.bind_eq_some_iff.mp h
  replace h := xI_ok h
  obtain ⟨v8, P5, rfl, h⟩ := h
  refine x_callSH (c_L_way hl e7) dL_law_1109 ch_L_way wl_L_187 ws_L_way rfl (by omega) (by decide) rfl (Nat.le_of_ble_eq_true rfl) rfl (fun v9 P9 hq9 => ?_) (fun i9 P9 hq9 => by cases hq9)
  cases hq9
  refine x_istore dL_law_1112 (Nat.le_of_ble_eq_true rfl) ?_
  refine x_aload_nr dL_law_1114 rfl ?_
  refine x_aload_n (Or.inr ⟨_, rfl⟩) dL_law_1115 rfl ?_
  refine x_iload dL_law_1116 rfl ?_
  refine x_iconst 1 dL_law_1118 (by decide) ?_
  refine x_iadd dL_law_1119 ?_
  obtain ⟨v9, e10, h⟩ := Option.bind_eq_some_iff.mp h
  refine k_rS e10 dL_law_1120 ?_
  refine x_aload_n (Or.inr ⟨_, rfl⟩) dL_law_1121 rfl ?_
  refine x_iload dL_law_1122 rfl ?_
  refine x_iconst 2 dL_law_1124 (by decide) ?_
  refine x_iadd dL_law_1125 ?_
  obtain ⟨v11, e12, h⟩ := Option.bind_eq_some_iff.mp h
  refine k_rS e12 dL_law_1126 ?_
  obtain ⟨_, e17, h⟩ := Option.bind_eq_some_iff.mp h
  obtain ⟨fse17, e17⟩ := kO_ok e17
  obtain ⟨r14, e15, h⟩ := Option.bind_eq_some_iff.mp h
  replace h := xI_ok h
  obtain ⟨v16, P13, rfl, h⟩ := h
  refine x_callV (c_X11_way hl e15) dL_law_1127 cw_X11_way wl_L_189 wi_X11_way wse_X11_way rfl e17 (by decide) rfl (by omega) (by decide) rfl (Nat.le_of_ble_eq_true rfl) rfl (fun v9 P9 hq9 => ?_) (fun i9 P9 hq9 => by cases hq9)
  cases hq9
  refine x_istore dL_law_1130 (Nat.le_of_ble_eq_true rfl) ?_
  refine x_aload_nr dL_law_1132 rfl ?_
  obtain ⟨_, e22, h⟩ := Option.bind_eq_some_iff.mp h
  obtain ⟨fse22, e22⟩ := kO_ok e22
  obtain ⟨r19, e20, h⟩ := Option.bind_eq_some_iff.mp h
  replace h := xI_ok h
  obtain ⟨v21, P18, rfl, h⟩ := h
  refine x_callV (c_X11_thrown hl e20) dL_law_1133 cw_X11_thrown wl_L_148 wi_X11_thrown wse_X11_thrown rfl e22 (by decide) rfl (by omega) (by decide) rfl (Nat.le_of_ble_eq_true rfl) rfl (fun v9 P9 hq9 => ?_) (fun i9 P9 hq9 => by cases hq9)
  cases hq9
  refine x_iload dL_law_1136 rfl ?_
  refine x_icmp_eq 1143 dL_law_1138 (by decide) (fun q27 => ?_) (fun q27 => ?_)
  · rw [if_pos q27] at h
    refine x_iload dL_law_1143 rfl ?_
    refine x_if_ne 1160 dL_law_1145 (by decide) (fun q26 => ?_) (fun q26 => ?_)
    · rw [if_pos q26] at h
      refine x_goto 2751 dL_law_1160 (by decide) ?_
      exact Wp.mask [true, true, true, true, true, false, false] (hrec 2751 _ _ _ h _ _ rfl _ hQ)
    · rw [if_neg (fun z9 => z9 q26)] at h
      refine x_aload_nr dL_law_1148 rfl ?_
      refine x_iconst 0 dL_law_1149 (by decide) ?_
      obtain ⟨v23, e24, h⟩ := Option.bind_eq_some_iff.mp h
      refine k_aJ e24 dL_law_1150 ?_
      refine x_iload dL_law_1151 rfl ?_
      refine x_i2l dL_law_1153 ?_
      refine x_lcmp dL_law_1154 ?_
      refine x_if_eq 1160 dL_law_1155 (by decide) (fun q25 => ?_) (fun q25 => ?_)
      · rw [if_pos q25] at h
        refine x_goto 2751 dL_law_1160 (by decide) ?_
        exact Wp.mask [true, true, true, true, true, false, false] (hrec 2751 _ _ _ h _ _ rfl _ hQ)
      · rw [if_neg q25] at h
        refine x_iconst 0 dL_law_1158 (by decide) ?_
        cases h
        exact x_iret .boolean rfl rfl dL_law_1159 hQ
  · rw [if_neg q27] at h
    refine x_iconst 0 dL_law_1141 (by decide) ?_
    cases h
    exact x_iret .boolean rfl rfl dL_law_1142 hQ
set_option maxHeartbeats 2000000 in
set_option maxRecDepth 20000 in
theorem t_L_law_1163 {G : xG} {l : Launch} (hl : l.stackTraces = false) {n : Nat} {rec : Nat → List Value → xH → xO} (hrec : ∀ pc env P z, rec pc env P = some z → ∀ L st, lay_L_law pc env = some (L, st) → ∀ Q : xR → xH → Prop, Q z.1 z.2 → Wp G l 45 mL_law pc L st P Q) {a1 a2 a3 a4} {P : xH} {z : xR × xH} (h : b_L_law_1163 n G.2.2.2.2.1 G.2.2.2.2.2 rec a1 a2 a3 a4 P = some z) {Q : xR → xH → Prop} (hQ : Q z.1 z.2) : Wp G l 45 mL_law 1163 [some (.retAddr 0), some (.ref a1), some (.ref a2), some (.ref a3), some (.int a4), none, none] [] P Q := by
  unfold b_L_law_1163 at h
  refine x_aload_nr dL_law_1163 rfl ?_
  refine x_aload_n (Or.inr ⟨_, rfl⟩) dL_law_1164 rfl ?_
  refine x_iload dL_law_1165 rfl ?_
  refine x_iconst 1 dL_law_1167 (by decide) ?_
  refine x_iadd dL_law_1168 ?_
  obtain ⟨v1, e2, h⟩ := Option.bind_eq_some_iff.mp h
  refine k_rS e2 dL_law_1169 ?_
  refine x_aload_nr dL_law_1170 rfl ?_
  obtain ⟨r4, e5, h⟩ := Option.bind_eq_some_iff.mp h
  replace h := xI_ok h
  obtain ⟨v6, P3, rfl, h⟩ := h
  refine x_callSH (c_L_late hl e5) dL_law_1171 ch_L_late wl_L_190 ws_L_late rfl (by omega) (by decide) rfl (Nat.le_of_ble_eq_true rfl) rfl (fun v9 P9 hq9 => ?_) (fun i9 P9 hq9 => by cases hq9)
  cases hq9
  refine x_istore dL_law_1174 (Nat.le_of_ble_eq_true rfl) ?_
  refine x_aload_nr dL_law_1176 rfl ?_
  refine x_aload_n (Or.inr ⟨_, rfl⟩) dL_law_1177 rfl ?_
  refine x_iload dL_law_1178 rfl ?_
  refine x_iconst 1 dL_law_1180 (by decide) ?_
  refine x_iadd dL_law_1181 ?_
  obtain ⟨v7, e8, h⟩ := Option.bind_eq_some_iff.mp h
  refine k_rS e8 dL_law_1182 ?_
  obtain ⟨_, e13, h⟩ := Option.bind_eq_some_iff.mp h
  obtain ⟨fse13, e13⟩ := kO_ok e13
  obtain ⟨r10, e11, h⟩ := Option.bind_eq_some_iff.mp h
  replace h := xI_ok h
  obtain ⟨v12, P9, rfl, h⟩ := h
  refine x_callV (c_X11_late hl e11) dL_law_1183 cw_X11_late wl_L_192 wi_X11_late wse_X11_late rfl e13 (by decide) rfl (by omega) (by decide) rfl (Nat.le_of_ble_eq_true rfl) rfl (fun v9 P9 hq9 => ?_) (fun i9 P9 hq9 => by cases hq9)
  cases hq9
  refine x_istore dL_law_1186 (Nat.le_of_ble_eq_true rfl) ?_
  refine x_aload_nr dL_law_1188 rfl ?_
  obtain ⟨_, e18, h⟩ := Option.bind_eq_some_iff.mp h
  obtain ⟨fse18, e18⟩ := kO_ok e18
  obtain ⟨r15, e16, h⟩ := Option.bind_eq_some_iff.mp h
  replace h := xI_ok h
  obtain ⟨v17, P14, rfl, h⟩ := h
  refine x_callV (c_X11_thrown hl e16) dL_law_1189 cw_X11_thrown wl_L_148 wi_X11_thrown wse_X11_thrown rfl e18 (by decide) rfl (by omega) (by decide) rfl (Nat.le_of_ble_eq_true rfl) rfl (fun v9 P9 hq9 => ?_) (fun i9 P9 hq9 => by cases hq9)
  cases hq9
  refine x_iload dL_law_1192 rfl ?_
  refine x_icmp_eq 1199 dL_law_1194 (by decide) (fun q23 => ?_) (fun q23 => ?_)
  · rw [if_pos q23] at h
    refine x_iload dL_law_1199 rfl ?_
    refine x_if_ne 1216 dL_law_1201 (by decide) (fun q22 => ?_) (fun q22 => ?_)
    · rw [if_pos q22] at h
      refine x_goto 2751 dL_law_1216 (by decide) ?_
      exact Wp.mask [true, true, true, true, true, false, false] (hrec 2751 _ _ _ h _ _ rfl _ hQ)
    · rw [if_neg (fun z9 => z9 q22)] at h
      refine x_aload_nr dL_law_1204 rfl ?_
      refine x_iconst 0 dL_law_1205 (by decide) ?_
      obtain ⟨v19, e20, h⟩ := Option.bind_eq_some_iff.mp h
      refine k_aJ e20 dL_law_1206 ?_
      refine x_iload dL_law_1207 rfl ?_
      refine x_i2l dL_law_1209 ?_
      refine x_lcmp dL_law_1210 ?_
      refine x_if_eq 1216 dL_law_1211 (by decide) (fun q21 => ?_) (fun q21 => ?_)
      · rw [if_pos q21] at h
        refine x_goto 2751 dL_law_1216 (by decide) ?_
        exact Wp.mask [true, true, true, true, true, false, false] (hrec 2751 _ _ _ h _ _ rfl _ hQ)
      · rw [if_neg q21] at h
        refine x_iconst 0 dL_law_1214 (by decide) ?_
        cases h
        exact x_iret .boolean rfl rfl dL_law_1215 hQ
  · rw [if_neg q23] at h
    refine x_iconst 0 dL_law_1197 (by decide) ?_
    cases h
    exact x_iret .boolean rfl rfl dL_law_1198 hQ
set_option maxHeartbeats 2000000 in
set_option maxRecDepth 20000 in
theorem t_L_law_1219 {G : xG} {l : Launch} (hl : l.stackTraces = false) {n : Nat} {rec : Nat → List Value → xH → xO} (hrec : ∀ pc env P z, rec pc env P = some z → ∀ L st, lay_L_law pc env = some (L, st) → ∀ Q : xR → xH → Prop, Q z.1 z.2 → Wp G l 45 mL_law pc L st P Q) {a1 a2 a3 a4} {P : xH} {z : xR × xH} (h : b_L_law_1219 n G.2.2.2.2.1 G.2.2.2.2.2 rec a1 a2 a3 a4 P = some z) {Q : xR → xH → Prop} (hQ : Q z.1 z.2) : Wp G l 45 mL_law 1219 [some (.retAddr 0), some (.ref a1), some (.ref a2), some (.ref a3), some (.int a4), none, none] [] P Q := by
  unfold b_L_law_1219 at h
  refine x_aload_nr dL_law_1219 rfl ?_
  refine x_aload_n (Or.inr ⟨_, rfl⟩) dL_law_1220 rfl ?_
  refine x_iload dL_law_1221 rfl ?_
  refine x_iconst 1 dL_law_1223 (by decide) ?_
  refine x_iadd dL_law_1224 ?_
  obtain ⟨v1, e2, h⟩ := Option.bind_eq_some_iff.mp h
  refine k_rS e2 dL_law_1225 ?_
  refine x_aload_nr dL_law_1226 rfl ?_
  obtain ⟨r4, e5, h⟩ := Option.bind_eq_some_iff.mp h
  replace h := xI_ok h
  obtain ⟨v6, P3, rfl, h⟩ := h
  refine x_callSH (c_L_rumour hl e5) dL_law_1227 ch_L_rumour wl_L_193 ws_L_rumour rfl (by omega) (by decide) rfl (Nat.le_of_ble_eq_true rfl) rfl (fun v9 P9 hq9 => ?_) (fun i9 P9 hq9 => by cases hq9)
  cases hq9
  refine x_istore dL_law_1230 (Nat.le_of_ble_eq_true rfl) ?_
  refine x_aload_nr dL_law_1232 rfl ?_
  refine x_aload_n (Or.inr ⟨_, rfl⟩) dL_law_1233 rfl ?_
  refine x_iload dL_law_1234 rfl ?_
  refine x_iconst 1 dL_law_1236 (by decide) ?_
  refine x_iadd dL_law_1237 ?_
  obtain ⟨v7, e8, h⟩ := Option.bind_eq_some_iff.mp h
  refine k_rS e8 dL_law_1238 ?_
  obtain ⟨_, e13, h⟩ := Option.bind_eq_some_iff.mp h
  obtain ⟨fse13, e13⟩ := kO_ok e13
  obtain ⟨r10, e11, h⟩ := Option.bind_eq_some_iff.mp h
  replace h := xI_ok h
  obtain ⟨v12, P9, rfl, h⟩ := h
  refine x_callV (c_X11_rumour hl e11) dL_law_1239 cw_X11_rumour wl_L_195 wi_X11_rumour wse_X11_rumour rfl e13 (by decide) rfl (by omega) (by decide) rfl (Nat.le_of_ble_eq_true rfl) rfl (fun v9 P9 hq9 => ?_) (fun i9 P9 hq9 => by cases hq9)
  cases hq9
  refine x_istore dL_law_1242 (Nat.le_of_ble_eq_true rfl) ?_
  refine x_aload_nr dL_law_1244 rfl ?_
  obtain ⟨_, e18, h⟩ := Option.bind_eq_some_iff.mp h
  obtain ⟨fse18, e18⟩ := kO_ok e18
  obtain ⟨r15, e16, h⟩ := Option.bind_eq_some_iff.mp h
  replace h := xI_ok h
  obtain ⟨v17, P14, rfl, h⟩ := h
  refine x_callV (c_X11_thrown hl e16) dL_law_1245 cw_X11_thrown wl_L_148 wi_X11_thrown wse_X11_thrown rfl e18 (by decide) rfl (by omega) (by decide) rfl (Nat.le_of_ble_eq_true rfl) rfl (fun v9 P9 hq9 => ?_) (fun i9 P9 hq9 => by cases hq9)
  cases hq9
  refine x_iload dL_law_1248 rfl ?_
  refine x_icmp_eq 1255 dL_law_1250 (by decide) (fun q23 => ?_) (fun q23 => ?_)
  · rw [if_pos q23] at h
    refine x_iload dL_law_1255 rfl ?_
    refine x_if_ne 1272 dL_law_1257 (by decide) (fun q22 => ?_) (fun q22 => ?_)
    · rw [if_pos q22] at h
      refine x_goto 2751 dL_law_1272 (by decide) ?_
      exact Wp.mask [true, true, true, true, true, false, false] (hrec 2751 _ _ _ h _ _ rfl _ hQ)
    · rw [if_neg (fun z9 => z9 q22)] at h
      refine x_aload_nr dL_law_1260 rfl ?_
      refine x_iconst 0 dL_law_1261 (by decide) ?_
      obtain ⟨v19, e20, h⟩ := Option.bind_eq_some_iff.mp h
      refine k_aJ e20 dL_law_1262 ?_
      refine x_iload dL_law_1263 rfl ?_
      refine x_i2l dL_law_1265 ?_
      refine x_lcmp dL_law_1266 ?_
      refine x_if_eq 1272 dL_law_1267 (by decide) (fun q21 => ?_) (fun q21 => ?_)
      · rw [if_pos q21] at h
        refine x_goto 2751 dL_law_1272 (by decide) ?_
        exact Wp.mask [true, true, true, true, true, false, false] (hrec 2751 _ _ _ h _ _ rfl _ hQ)
      · rw [if_neg q21] at h
        refine x_iconst 0 dL_law_1270 (by decide) ?_
        cases h
        exact x_iret .boolean rfl rfl dL_law_1271 hQ
  · rw [if_neg q23] at h
    refine x_iconst 0 dL_law_1253 (by decide) ?_
    cases h
    exact x_iret .boolean rfl rfl dL_law_1254 hQ
set_option maxHeartbeats 2000000 in
set_option maxRecDepth 20000 in
theorem t_L_law_1275 {G : xG} {l : Launch} (hl : l.stackTraces = false) {n : Nat} {rec : Nat → List Value → xH → xO} (hrec : ∀ pc env P z, rec pc env P = some z → ∀ L st, lay_L_law pc env = some (L, st) → ∀ Q : xR → xH → Prop, Q z.1 z.2 → Wp G l 45 mL_law pc L st P Q) {a1 a2 a3 a4} {P : xH} {z : xR × xH} (h : b_L_law_1275 n G.2.2.2.2.1 G.2.2.2.2.2 rec a1 a2 a3 a4 P = some z) {Q : xR → xH → Prop} (hQ : Q z.1 z.2) : Wp G l 45 mL_law 1275 [some (.retAddr 0), some (.ref a1), some (.ref a2), some (.ref a3), some (.int a4), none, none] [] P Q := by
  unfold b_L_law_1275 at h
  refine x_aload_nr dL_law_1275 rfl ?_
  refine x_aload_n (Or.inr ⟨_, rfl⟩) dL_law_1276 rfl ?_
  refine x_iload dL_law_1277 rfl ?_
  refine x_iconst 1 dL_law_1279 (by decide) ?_
  refine x_iadd dL_law_1280 ?_
  obtain ⟨v1, e2, h⟩ := Option.bind_eq_some_iff.mp h
  refine k_rS e2 dL_law_1281 ?_
  refine x_aload_n (Or.inr ⟨_, rfl⟩) dL_law_1282 rfl ?_
  refine x_iload dL_law_1283 rfl ?_
  refine x_iconst 2 dL_law_1285 (by decide) ?_
  refine x_iadd dL_law_1286 ?_
  obtain ⟨v3, e4, h⟩ := Option.bind_eq_some_iff.mp h
  refine k_rS e4 dL_law_1287 ?_
  refine x_aload_n (Or.inr ⟨_, rfl⟩) dL_law_1288 rfl ?_
  refine x_iload dL_law_1289 rfl ?_
  refine x_iconst 3 dL_law_1291 (by decide) ?_
  refine x_iadd dL_law_1292 ?_
  obtain ⟨v5, e6, h⟩ := Option.bind_eq_some_iff.mp h
  refine k_rS e6 dL_law_1293 ?_
  refine x_if_eq 1301 dL_law_1294 (by decide) (fun q7 => ?_) (fun q7 => ?_)
  · rw [if_pos q7] at h
    refine x_iconst 0 dL_law_1301 (by decide) ?_
    exact Wp.mask [true, true, true, true, true, false, false] (hrec 1302 _ _ _ h _ _ rfl _ hQ)
  · rw [if_neg q7] at h
    refine x_iconst 1 dL_law_1297 (by decide) ?_
    refine x_goto 1302 dL_law_1298 (by decide) ?_
    exact Wp.mask [true, true, true, true, true, false, false] (hrec 1302 _ _ _ h _ _ rfl _ hQ)
set_option maxHeartbeats 2000000 in
set_option maxRecDepth 20000 in
theorem t_L_law_1302 {G : xG} {l : Launch} (hl : l.stackTraces = false) {n : Nat} {rec : Nat → List Value → xH → xO} (hrec : ∀ pc env P z, rec pc env P = some z → ∀ L st, lay_L_law pc env = some (L, st) → ∀ Q : xR → xH → Prop, Q z.1 z.2 → Wp G l 45 mL_law pc L st P Q) {a1 a2 a3 a4 s0 s1 s2 s3} {P : xH} {z : xR × xH} (h : b_L_law_1302 n G.2.2.2.2.1 G.2.2.2.2.2 rec a1 a2 a3 a4 s0 s1 s2 s3 P = some z) {Q : xR → xH → Prop} (hQ : Q z.1 z.2) : Wp G l 45 mL_law 1302 [some (.retAddr 0), some (.ref a1), some (.ref a2), some (.ref a3), some (.int a4), none, none] [.int s3, .int s2, .int s1, .ref s0] P Q := by
  unfold b_L_law_1302 at h
  refine x_aload_nr dL_law_1302 rfl ?_
  obtain ⟨r2, e3, h⟩ := Option.bind_eq_some_iff.mp h
  replace h := xI_ok h
  obtain ⟨v4, P1, rfl, h⟩ := h
  refine x_callSH (c_L_sayings hl e3) dL_law_1303 ch_L_sayings wl_L_196 ws_L_sayings rfl (by omega) (by decide) rfl (Nat.le_of_ble_eq_true rfl) rfl (fun v9 P9 hq9 => ?_) (fun i9 P9 hq9 => by cases hq9)
  cases hq9
  refine x_istore dL_law_1306 (Nat.le_of_ble_eq_true rfl) ?_
  refine x_aload_nr dL_law_1308 rfl ?_
  refine x_aload_n (Or.inr ⟨_, rfl⟩) dL_law_1309 rfl ?_
  refine x_iload dL_law_1310 rfl ?_
  refine x_iconst 1 dL_law_1312 (by decide) ?_
  refine x_iadd dL_law_1313 ?_
  obtain ⟨v5, e6, h⟩ := Option.bind_eq_some_iff.mp h
  refine k_rS e6 dL_law_1314 ?_
  refine x_aload_n (Or.inr ⟨_, rfl⟩) dL_law_1315 rfl ?_
  refine x_iload dL_law_1316 rfl ?_
  refine x_iconst 2 dL_law_1318 (by decide) ?_
  refine x_iadd dL_law_1319 ?_
  obtain ⟨v7, e8, h⟩ := Option.bind_eq_some_iff.mp h
  refine k_rS e8 dL_law_1320 ?_
  refine x_aload_n (Or.inr ⟨_, rfl⟩) dL_law_1321 rfl ?_
  refine x_iload dL_law_1322 rfl ?_
  refine x_iconst 3 dL_law_1324 (by decide) ?_
  refine x_iadd dL_law_1325 ?_
  obtain ⟨v9, e10, h⟩ := Option.bind_eq_some_iff.mp h
  refine k_rS e10 dL_law_1326 ?_
  refine x_if_eq 1334 dL_law_1327 (by decide) (fun q11 => ?_) (fun q11 => ?_)
  · rw [if_pos q11] at h
    refine x_iconst 0 dL_law_1334 (by decide) ?_
    exact Wp.mask [true, true, true, true, true, true, false] (hrec 1335 _ _ _ h _ _ rfl _ hQ)
  · rw [if_neg q11] at h
    refine x_iconst 1 dL_law_1330 (by decide) ?_
    refine x_goto 1335 dL_law_1331 (by decide) ?_
    exact Wp.mask [true, true, true, true, true, true, false] (hrec 1335 _ _ _ h _ _ rfl _ hQ)
set_option maxHeartbeats 2000000 in
set_option maxRecDepth 20000 in
theorem t_L_law_1335 {G : xG} {l : Launch} (hl : l.stackTraces = false) {n : Nat} {rec : Nat → List Value → xH → xO} (hrec : ∀ pc env P z, rec pc env P = some z → ∀ L st, lay_L_law pc env = some (L, st) → ∀ Q : xR → xH → Prop, Q z.1 z.2 → Wp G l 45 mL_law pc L st P Q) {a1 a2 a3 a4 a5 s0 s1 s2 s3} {P : xH} {z : xR × xH} (h : b_L_law_1335 n G.2.2.2.2.1 G.2.2.2.2.2 rec a1 a2 a3 a4 a5 s0 s1 s2 s3 P = some z) {Q : xR → xH → Prop} (hQ : Q z.1 z.2) : Wp G l 45 mL_law 1335 [some (.retAddr 0), some (.ref a1), some (.ref a2), some (.ref a3), some (.int a4), some (.int a5), none] [.int s3, .int s2, .int s1, .ref s0] P Q := by
  unfold b_L_law_1335 at h
  obtain ⟨_, e5, h⟩ := Option.bind_eq_some_iff.mp h
  obtain ⟨fse5, e5⟩ := kO_ok e5
  obtain ⟨r2, e3, h⟩ := Option.bind_eq_some_iff.mp h
  replace h := xI_ok h
  obtain ⟨v4, P1, rfl, h⟩ := h
  refine x_callV (c_X11_sayings hl e3) dL_law_1335 cw_X11_sayings wl_L_199 wi_X11_sayings wse_X11_sayings rfl e5 (by decide) rfl (by omega) (by decide) rfl (Nat.le_of_ble_eq_true rfl) rfl (fun v9 P9 hq9 => ?_) (fun i9 P9 hq9 => by cases hq9)
  cases hq9
  refine x_istore dL_law_1338 (Nat.le_of_ble_eq_true rfl) ?_
  refine x_aload_nr dL_law_1340 rfl ?_
  obtain ⟨_, e10, h⟩ := Option.bind_eq_some_iff.mp h
  obtain ⟨fse10, e10⟩ := kO_ok e10
  obtain ⟨r7, e8, h⟩ := Option.bind_eq_some_iff.mp h
  replace h := xI_ok h
  obtain ⟨v9, P6, rfl, h⟩ := h
  refine x_callV (c_X11_thrown hl e8) dL_law_1341 cw_X11_thrown wl_L_148 wi_X11_thrown wse_X11_thrown rfl e10 (by decide) rfl (by omega) (by decide) rfl (Nat.le_of_ble_eq_true rfl) rfl (fun v9 P9 hq9 => ?_) (fun i9 P9 hq9 => by cases hq9)
  cases hq9
  refine x_iload dL_law_1344 rfl ?_
  refine x_icmp_eq 1351 dL_law_1346 (by decide) (fun q15 => ?_) (fun q15 => ?_)
  · rw [if_pos q15] at h
    refine x_iload dL_law_1351 rfl ?_
    refine x_if_ne 1368 dL_law_1353 (by decide) (fun q14 => ?_) (fun q14 => ?_)
    · rw [if_pos q14] at h
      refine x_goto 2751 dL_law_1368 (by decide) ?_
      exact Wp.mask [true, true, true, true, true, false, false] (hrec 2751 _ _ _ h _ _ rfl _ hQ)
    · rw [if_neg (fun z9 => z9 q14)] at h
      refine x_aload_nr dL_law_1356 rfl ?_
      refine x_iconst 0 dL_law_1357 (by decide) ?_
      obtain ⟨v11, e12, h⟩ := Option.bind_eq_some_iff.mp h
      refine k_aJ e12 dL_law_1358 ?_
      refine x_iload dL_law_1359 rfl ?_
      refine x_i2l dL_law_1361 ?_
      refine x_lcmp dL_law_1362 ?_
      refine x_if_eq 1368 dL_law_1363 (by decide) (fun q13 => ?_) (fun q13 => ?_)
      · rw [if_pos q13] at h
        refine x_goto 2751 dL_law_1368 (by decide) ?_
        exact Wp.mask [true, true, true, true, true, false, false] (hrec 2751 _ _ _ h _ _ rfl _ hQ)
      · rw [if_neg q13] at h
        refine x_iconst 0 dL_law_1366 (by decide) ?_
        cases h
        exact x_iret .boolean rfl rfl dL_law_1367 hQ
  · rw [if_neg q15] at h
    refine x_iconst 0 dL_law_1349 (by decide) ?_
    cases h
    exact x_iret .boolean rfl rfl dL_law_1350 hQ
set_option maxHeartbeats 2000000 in
set_option maxRecDepth 20000 in
theorem t_L_law_1371 {G : xG} {l : Launch} (hl : l.stackTraces = false) {n : Nat} {rec : Nat → List Value → xH → xO} (hrec : ∀ pc env P z, rec pc env P = some z → ∀ L st, lay_L_law pc env = some (L, st) → ∀ Q : xR → xH → Prop, Q z.1 z.2 → Wp G l 45 mL_law pc L st P Q) {a1 a2 a3 a4} {P : xH} {z : xR × xH} (h : b_L_law_1371 n G.2.2.2.2.1 G.2.2.2.2.2 rec a1 a2 a3 a4 P = some z) {Q : xR → xH → Prop} (hQ : Q z.1 z.2) : Wp G l 45 mL_law 1371 [some (.retAddr 0), some (.ref a1), some (.ref a2), some (.ref a3), some (.int a4), none, none] [] P Q := by
  unfold b_L_law_1371 at h
  refine x_aload_nr dL_law_1371 rfl ?_
  refine x_aload_n (Or.inr ⟨_, rfl⟩) dL_law_1372 rfl ?_
  refine x_iload dL_law_1373 rfl ?_
  refine x_iconst 1 dL_law_1375 (by decide) ?_
  refine x_iadd dL_law_1376 ?_
  obtain ⟨v1, e2, h⟩ := Option.bind_eq_some_iff.mp h
  refine k_rS e2 dL_law_1377 ?_
  obtain ⟨r4, e5, h⟩ := Option.bind_eq_some_iff.mp h
  replace h := xI_ok h
  obtain ⟨v6, P3, rfl, h⟩ := h
  refine x_callSH (c_L_speed hl e5) dL_law_1378 ch_L_speed wl_L_200 ws_L_speed rfl (by omega) (by decide) rfl (Nat.le_of_ble_eq_true rfl) rfl (fun v9 P9 hq9 => ?_) (fun i9 P9 hq9 => by cases hq9)
  cases hq9
  refine x_istore dL_law_1381 (Nat.le_of_ble_eq_true rfl) ?_
  refine x_aload_nr dL_law_1383 rfl ?_
  refine x_aload_n (Or.inr ⟨_, rfl⟩) dL_law_1384 rfl ?_
  refine x_iload dL_law_1385 rfl ?_
  refine x_iconst 1 dL_law_1387 (by decide) ?_
  refine x_iadd dL_law_1388 ?_
  obtain ⟨v7, e8, h⟩ := Option.bind_eq_some_iff.mp h
  refine k_rS e8 dL_law_1389 ?_
  obtain ⟨_, e12, h⟩ := Option.bind_eq_some_iff.mp h
  obtain ⟨fse12, e12⟩ := kO_ok e12
  obtain ⟨r10, e11, h⟩ := Option.bind_eq_some_iff.mp h
  replace h := xU_ok h
  obtain ⟨P9, rfl, h⟩ := h
  refine x_callV (c_X11_speed hl e11) dL_law_1390 cw_X11_speed wl_L_203 wi_X11_speed wse_X11_speed rfl e12 (by decide) rfl (by omega) (by decide) rfl (Nat.le_of_ble_eq_true rfl) rfl (fun v9 P9 hq9 => ?_) (fun i9 P9 hq9 => by cases hq9)
  cases hq9
  refine x_aload_nr dL_law_1393 rfl ?_
  obtain ⟨_, e17, h⟩ := Option.bind_eq_some_iff.mp h
  obtain ⟨fse17, e17⟩ := kO_ok e17
  obtain ⟨r14, e15, h⟩ := Option.bind_eq_some_iff.mp h
  replace h := xI_ok h
  obtain ⟨v16, P13, rfl, h⟩ := h
  refine x_callV (c_X11_thrown hl e15) dL_law_1394 cw_X11_thrown wl_L_148 wi_X11_thrown wse_X11_thrown rfl e17 (by decide) rfl (by omega) (by decide) rfl (Nat.le_of_ble_eq_true rfl) rfl (fun v9 P9 hq9 => ?_) (fun i9 P9 hq9 => by cases hq9)
  cases hq9
  refine x_iload dL_law_1397 rfl ?_
  refine x_icmp_eq 1404 dL_law_1399 (by decide) (fun q18 => ?_) (fun q18 => ?_)
  · rw [if_pos q18] at h
    refine x_goto 2751 dL_law_1404 (by decide) ?_
    exact Wp.mask [true, true, true, true, true, false, false] (hrec 2751 _ _ _ h _ _ rfl _ hQ)
  · rw [if_neg q18] at h
    refine x_iconst 0 dL_law_1402 (by decide) ?_
    cases h
    exact x_iret .boolean rfl rfl dL_law_1403 hQ
set_option maxHeartbeats 2000000 in
set_option maxRecDepth 20000 in
theorem t_L_law_1407 {G : xG} {l : Launch} (hl : l.stackTraces = false) {n : Nat} {rec : Nat → List Value → xH → xO} (hrec : ∀ pc env P z, rec pc env P = some z → ∀ L st, lay_L_law pc env = some (L, st) → ∀ Q : xR → xH → Prop, Q z.1 z.2 → Wp G l 45 mL_law pc L st P Q) {a1 a2 a3 a4} {P : xH} {z : xR × xH} (h : b_L_law_1407 n G.2.2.2.2.1 G.2.2.2.2.2 rec a1 a2 a3 a4 P = some z) {Q : xR → xH → Prop} (hQ : Q z.1 z.2) : Wp G l 45 mL_law 1407 [some (.retAddr 0), some (.ref a1), some (.ref a2), some (.ref a3), some (.int a4), none, none] [] P Q := by
  unfold b_L_law_1407 at h
  refine x_aload_nr dL_law_1407 rfl ?_
  refine x_aload_n (Or.inr ⟨_, rfl⟩) dL_law_1408 rfl ?_
  refine x_iload dL_law_1409 rfl ?_
  refine x_iconst 1 dL_law_1411 (by decide) ?_
  refine x_iadd dL_law_1412 ?_
  obtain ⟨v1, e2, h⟩ := Option.bind_eq_some_iff.mp h
  refine k_rS e2 dL_law_1413 ?_
  refine x_aload_n (Or.inr ⟨_, rfl⟩) dL_law_1414 rfl ?_
  refine x_iload dL_law_1415 rfl ?_
  refine x_iconst 2 dL_law_1417 (by decide) ?_
  refine x_iadd dL_law_1418 ?_
  obtain ⟨v3, e4, h⟩ := Option.bind_eq_some_iff.mp h
  refine k_rS e4 dL_law_1419 ?_
  refine x_aload_n (Or.inr ⟨_, rfl⟩) dL_law_1420 rfl ?_
  refine x_iload dL_law_1421 rfl ?_
  refine x_iconst 3 dL_law_1423 (by decide) ?_
  refine x_iadd dL_law_1424 ?_
  obtain ⟨v5, e6, h⟩ := Option.bind_eq_some_iff.mp h
  refine k_rS e6 dL_law_1425 ?_
  refine x_aload_nr dL_law_1426 rfl ?_
  obtain ⟨r8, e9, h⟩ := Option.bind_eq_some_iff.mp h
  replace h := xI_ok h
  obtain ⟨v10, P7, rfl, h⟩ := h
  refine x_callSH (c_L_could hl e9) dL_law_1427 ch_L_could wl_L_204 ws_L_could rfl (by omega) (by decide) rfl (Nat.le_of_ble_eq_true rfl) rfl (fun v9 P9 hq9 => ?_) (fun i9 P9 hq9 => by cases hq9)
  cases hq9
  refine x_istore dL_law_1430 (Nat.le_of_ble_eq_true rfl) ?_
  refine x_aload_nr dL_law_1432 rfl ?_
  refine x_aload_n (Or.inr ⟨_, rfl⟩) dL_law_1433 rfl ?_
  refine x_iload dL_law_1434 rfl ?_
  refine x_iconst 1 dL_law_1436 (by decide) ?_
  refine x_iadd dL_law_1437 ?_
  obtain ⟨v11, e12, h⟩ := Option.bind_eq_some_iff.mp h
  refine k_rS e12 dL_law_1438 ?_
  refine x_aload_n (Or.inr ⟨_, rfl⟩) dL_law_1439 rfl ?_
  refine x_iload dL_law_1440 rfl ?_
  refine x_iconst 2 dL_law_1442 (by decide) ?_
  refine x_iadd dL_law_1443 ?_
  obtain ⟨v13, e14, h⟩ := Option.bind_eq_some_iff.mp h
  refine k_rS e14 dL_law_1444 ?_
  refine x_aload_n (Or.inr ⟨_, rfl⟩) dL_law_1445 rfl ?_
  refine x_iload dL_law_1446 rfl ?_
  refine x_iconst 3 dL_law_1448 (by decide) ?_
  refine x_iadd dL_law_1449 ?_
  obtain ⟨v15, e16, h⟩ := Option.bind_eq_some_iff.mp h
  refine k_rS e16 dL_law_1450 ?_
  obtain ⟨_, e21, h⟩ := Option.bind_eq_some_iff.mp h
  obtain ⟨fse21, e21⟩ := kO_ok e21
  obtain ⟨r18, e19, h⟩ := Option.bind_eq_some_iff.mp h
  replace h := xI_ok h
  obtain ⟨v20, P17, rfl, h⟩ := h
  refine x_callV (c_X11_could hl e19) dL_law_1451 cw_X11_could wl_L_206 wi_X11_could wse_X11_could rfl e21 (by decide) rfl (by omega) (by decide) rfl (Nat.le_of_ble_eq_true rfl) rfl (fun v9 P9 hq9 => ?_) (fun i9 P9 hq9 => by cases hq9)
  cases hq9
  refine x_istore dL_law_1454 (Nat.le_of_ble_eq_true rfl) ?_
  refine x_aload_nr dL_law_1456 rfl ?_
  obtain ⟨_, e26, h⟩ := Option.bind_eq_some_iff.mp h
  obtain ⟨fse26, e26⟩ := kO_ok e26
  obtain ⟨r23, e24, h⟩ := Option.bind_eq_some_iff.mp h
  replace h := xI_ok h
  obtain ⟨v25, P22, rfl, h⟩ := h
  refine x_callV (c_X11_thrown hl e24) dL_law_1457 cw_X11_thrown wl_L_148 wi_X11_thrown wse_X11_thrown rfl e26 (by decide) rfl (by omega) (by decide) rfl (Nat.le_of_ble_eq_true rfl) rfl (fun v9 P9 hq9 => ?_) (fun i9 P9 hq9 => by cases hq9)
  cases hq9
  refine x_iload dL_law_1460 rfl ?_
  refine x_icmp_eq 1467 dL_law_1462 (by decide) (fun q31 => ?_) (fun q31 => ?_)
  · rw [if_pos q31] at h
    refine x_iload dL_law_1467 rfl ?_
    refine x_if_ne 1484 dL_law_1469 (by decide) (fun q30 => ?_) (fun q30 => ?_)
    · rw [if_pos q30] at h
      refine x_goto 2751 dL_law_1484 (by decide) ?_
      exact Wp.mask [true, true, true, true, true, false, false] (hrec 2751 _ _ _ h _ _ rfl _ hQ)
    · rw [if_neg (fun z9 => z9 q30)] at h
      refine x_aload_nr dL_law_1472 rfl ?_
      refine x_iconst 0 dL_law_1473 (by decide) ?_
      obtain ⟨v27, e28, h⟩ := Option.bind_eq_some_iff.mp h
      refine k_aJ e28 dL_law_1474 ?_
      refine x_iload dL_law_1475 rfl ?_
      refine x_i2l dL_law_1477 ?_
      refine x_lcmp dL_law_1478 ?_
      refine x_if_eq 1484 dL_law_1479 (by decide) (fun q29 => ?_) (fun q29 => ?_)
      · rw [if_pos q29] at h
        refine x_goto 2751 dL_law_1484 (by decide) ?_
        exact Wp.mask [true, true, true, true, true, false, false] (hrec 2751 _ _ _ h _ _ rfl _ hQ)
      · rw [if_neg q29] at h
        refine x_iconst 0 dL_law_1482 (by decide) ?_
        cases h
        exact x_iret .boolean rfl rfl dL_law_1483 hQ
  · rw [if_neg q31] at h
    refine x_iconst 0 dL_law_1465 (by decide) ?_
    cases h
    exact x_iret .boolean rfl rfl dL_law_1466 hQ
set_option maxHeartbeats 2000000 in
set_option maxRecDepth 20000 in
theorem t_L_law_1487 {G : xG} {l : Launch} (hl : l.stackTraces = false) {n : Nat} {rec : Nat → List Value → xH → xO} (hrec : ∀ pc env P z, rec pc env P = some z → ∀ L st, lay_L_law pc env = some (L, st) → ∀ Q : xR → xH → Prop, Q z.1 z.2 → Wp G l 45 mL_law pc L st P Q) {a1 a2 a3 a4} {P : xH} {z : xR × xH} (h : b_L_law_1487 n G.2.2.2.2.1 G.2.2.2.2.2 rec a1 a2 a3 a4 P = some z) {Q : xR → xH → Prop} (hQ : Q z.1 z.2) : Wp G l 45 mL_law 1487 [some (.retAddr 0), some (.ref a1), some (.ref a2), some (.ref a3), some (.int a4), none, none] [] P Q := by
  unfold b_L_law_1487 at h
  refine x_aload_nr dL_law_1487 rfl ?_
  refine x_aload_n (Or.inr ⟨_, rfl⟩) dL_law_1488 rfl ?_
  refine x_iload dL_law_1489 rfl ?_
  refine x_iconst 1 dL_law_1491 (by decide) ?_
  refine x_iadd dL_law_1492 ?_
  obtain ⟨v1, e2, h⟩ := Option.bind_eq_some_iff.mp h
  refine k_rS e2 dL_law_1493 ?_
  refine x_aload_n (Or.inr ⟨_, rfl⟩) dL_law_1494 rfl ?_
  refine x_iload dL_law_1495 rfl ?_
  refine x_iconst 2 dL_law_1497 (by decide) ?_
  refine x_iadd dL_law_1498 ?_
  obtain ⟨v3, e4, h⟩ := Option.bind_eq_some_iff.mp h
  refine k_rS e4 dL_law_1499 ?_
  refine x_aload_n (Or.inr ⟨_, rfl⟩) dL_law_1500 rfl ?_
  refine x_iload dL_law_1501 rfl ?_
  refine x_iconst 3 dL_law_1503 (by decide) ?_
  refine x_iadd dL_law_1504 ?_
  obtain ⟨v5, e6, h⟩ := Option.bind_eq_some_iff.mp h
  refine k_rS e6 dL_law_1505 ?_
  refine x_if_eq 1513 dL_law_1506 (by decide) (fun q7 => ?_) (fun q7 => ?_)
  · rw [if_pos q7] at h
    refine x_iconst 0 dL_law_1513 (by decide) ?_
    exact Wp.mask [true, true, true, true, true, false, false] (hrec 1514 _ _ _ h _ _ rfl _ hQ)
  · rw [if_neg q7] at h
    refine x_iconst 1 dL_law_1509 (by decide) ?_
    refine x_goto 1514 dL_law_1510 (by decide) ?_
    exact Wp.mask [true, true, true, true, true, false, false] (hrec 1514 _ _ _ h _ _ rfl _ hQ)
set_option maxHeartbeats 2000000 in
set_option maxRecDepth 20000 in
theorem t_L_law_1514 {G : xG} {l : Launch} (hl : l.stackTraces = false) {n : Nat} {rec : Nat → List Value → xH → xO} (hrec : ∀ pc env P z, rec pc env P = some z → ∀ L st, lay_L_law pc env = some (L, st) → ∀ Q : xR → xH → Prop, Q z.1 z.2 → Wp G l 45 mL_law pc L st P Q) {a1 a2 a3 a4 s0 s1 s2 s3} {P : xH} {z : xR × xH} (h : b_L_law_1514 n G.2.2.2.2.1 G.2.2.2.2.2 rec a1 a2 a3 a4 s0 s1 s2 s3 P = some z) {Q : xR → xH → Prop} (hQ : Q z.1 z.2) : Wp G l 45 mL_law 1514 [some (.retAddr 0), some (.ref a1), some (.ref a2), some (.ref a3), some (.int a4), none, none] [.int s3, .int s2, .int s1, .ref s0] P Q := by
  unfold b_L_law_1514 at h
  refine x_aload_nr dL_law_1514 rfl ?_
  obtain ⟨r2, e3, h⟩ := Option.bind_eq_some_iff.mp h
  replace h := xI_ok h
  obtain ⟨v4, P1, rfl, h⟩ := h
  refine x_callSH (c_L_least hl e3) dL_law_1515 ch_L_least wl_L_207 ws_L_least rfl (by omega) (by decide) rfl (Nat.le_of_ble_eq_true rfl) rfl (fun v9 P9 hq9 => ?_) (fun i9 P9 hq9 => by cases hq9)
  cases hq9
  refine x_istore dL_law_1518 (Nat.le_of_ble_eq_true rfl) ?_
  refine x_aload_nr dL_law_1520 rfl ?_
  refine x_aload_n (Or.inr ⟨_, rfl⟩) dL_law_1521 rfl ?_
  refine x_iload dL_law_1522 rfl ?_
  refine x_iconst 1 dL_law_1524 (by decide) ?_
  refine x_iadd dL_law_1525 ?_
  obtain ⟨v5, e6, h⟩ := Option.bind_eq_some_iff.mp h
  refine k_rS e6 dL_law_1526 ?_
  refine x_aload_n (Or.inr ⟨_, rfl⟩) dL_law_1527 rfl ?_
  refine x_iload dL_law_1528 rfl ?_
  refine x_iconst 2 dL_law_1530 (by decide) ?_
  refine x_iadd dL_law_1531 ?_
  obtain ⟨v7, e8, h⟩ := Option.bind_eq_some_iff.mp h
  refine k_rS e8 dL_law_1532 ?_
  refine x_aload_n (Or.inr ⟨_, rfl⟩) dL_law_1533 rfl ?_
  refine x_iload dL_law_1534 rfl ?_
  refine x_iconst 3 dL_law_1536 (by decide) ?_
  refine x_iadd dL_law_1537 ?_
  obtain ⟨v9, e10, h⟩ := Option.bind_eq_some_iff.mp h
  refine k_rS e10 dL_law_1538 ?_
  refine x_if_eq 1546 dL_law_1539 (by decide) (fun q11 => ?_) (fun q11 => ?_)
  · rw [if_pos q11] at h
    refine x_iconst 0 dL_law_1546 (by decide) ?_
    exact Wp.mask [true, true, true, true, true, true, false] (hrec 1547 _ _ _ h _ _ rfl _ hQ)
  · rw [if_neg q11] at h
    refine x_iconst 1 dL_law_1542 (by decide) ?_
    refine x_goto 1547 dL_law_1543 (by decide) ?_
    exact Wp.mask [true, true, true, true, true, true, false] (hrec 1547 _ _ _ h _ _ rfl _ hQ)
set_option maxHeartbeats 2000000 in
set_option maxRecDepth 20000 in
theorem t_L_law_1547 {G : xG} {l : Launch} (hl : l.stackTraces = false) {n : Nat} {rec : Nat → List Value → xH → xO} (hrec : ∀ pc env P z, rec pc env P = some z → ∀ L st, lay_L_law pc env = some (L, st) → ∀ Q : xR → xH → Prop, Q z.1 z.2 → Wp G l 45 mL_law pc L st P Q) {a1 a2 a3 a4 a5 s0 s1 s2 s3} {P : xH} {z : xR × xH} (h : b_L_law_1547 n G.2.2.2.2.1 G.2.2.2.2.2 rec a1 a2 a3 a4 a5 s0 s1 s2 s3 P = some z) {Q : xR → xH → Prop} (hQ : Q z.1 z.2) : Wp G l 45 mL_law 1547 [some (.retAddr 0), some (.ref a1), some (.ref a2), some (.ref a3), some (.int a4), some (.int a5), none] [.int s3, .int s2, .int s1, .ref s0] P Q := by
  unfold b_L_law_1547 at h
  obtain ⟨_, e5, h⟩ := Option.bind_eq_some_iff.mp h
  obtain ⟨fse5, e5⟩ := kO_ok e5
  obtain ⟨r2, e3, h⟩ := Option.bind_eq_some_iff.mp h
  replace h := xI_ok h
  obtain ⟨v4, P1, rfl, h⟩ := h
  refine x_callV (c_X11_least hl e3) dL_law_1547 cw_X11_least wl_L_209 wi_X11_least wse_X11_least rfl e5 (by decide) rfl (by omega) (by decide) rfl (Nat.le_of_ble_eq_true rfl) rfl (fun v9 P9 hq9 => ?_) (fun i9 P9 hq9 => by cases hq9)
  cases hq9
  refine x_istore dL_law_1550 (Nat.le_of_ble_eq_true rfl) ?_
  refine x_aload_nr dL_law_1552 rfl ?_
  obtain ⟨_, e10, h⟩ := Option.bind_eq_some_iff.mp h
  obtain ⟨fse10, e10⟩ := kO_ok e10
  obtain ⟨r7, e8, h⟩ := Option.bind_eq_some_iff.mp h
  replace h := xI_ok h
  obtain ⟨v9, P6, rfl, h⟩ := h
  refine x_callV (c_X11_thrown hl e8) dL_law_1553 cw_X11_thrown wl_L_148 wi_X11_thrown wse_X11_thrown rfl e10 (by decide) rfl (by omega) (by decide) rfl (Nat.le_of_ble_eq_true rfl) rfl (fun v9 P9 hq9 => ?_) (fun i9 P9 hq9 => by cases hq9)
  cases hq9
  refine x_iload dL_law_1556 rfl ?_
  refine x_icmp_eq 1563 dL_law_1558 (by decide) (fun q15 => ?_) (fun q15 => ?_)
  · rw [if_pos q15] at h
    refine x_iload dL_law_1563 rfl ?_
    refine x_if_ne 1580 dL_law_1565 (by decide) (fun q14 => ?_) (fun q14 => ?_)
    · rw [if_pos q14] at h
      refine x_goto 2751 dL_law_1580 (by decide) ?_
      exact Wp.mask [true, true, true, true, true, false, false] (hrec 2751 _ _ _ h _ _ rfl _ hQ)
    · rw [if_neg (fun z9 => z9 q14)] at h
      refine x_aload_nr dL_law_1568 rfl ?_
      refine x_iconst 0 dL_law_1569 (by decide) ?_
      obtain ⟨v11, e12, h⟩ := Option.bind_eq_some_iff.mp h
      refine k_aJ e12 dL_law_1570 ?_
      refine x_iload dL_law_1571 rfl ?_
      refine x_i2l dL_law_1573 ?_
      refine x_lcmp dL_law_1574 ?_
      refine x_if_eq 1580 dL_law_1575 (by decide) (fun q13 => ?_) (fun q13 => ?_)
      · rw [if_pos q13] at h
        refine x_goto 2751 dL_law_1580 (by decide) ?_
        exact Wp.mask [true, true, true, true, true, false, false] (hrec 2751 _ _ _ h _ _ rfl _ hQ)
      · rw [if_neg q13] at h
        refine x_iconst 0 dL_law_1578 (by decide) ?_
        cases h
        exact x_iret .boolean rfl rfl dL_law_1579 hQ
  · rw [if_neg q15] at h
    refine x_iconst 0 dL_law_1561 (by decide) ?_
    cases h
    exact x_iret .boolean rfl rfl dL_law_1562 hQ
set_option maxHeartbeats 2000000 in
set_option maxRecDepth 20000 in
theorem t_L_law_1583 {G : xG} {l : Launch} (hl : l.stackTraces = false) {n : Nat} {rec : Nat → List Value → xH → xO} (hrec : ∀ pc env P z, rec pc env P = some z → ∀ L st, lay_L_law pc env = some (L, st) → ∀ Q : xR → xH → Prop, Q z.1 z.2 → Wp G l 45 mL_law pc L st P Q) {a1 a2 a3 a4} {P : xH} {z : xR × xH} (h : b_L_law_1583 n G.2.2.2.2.1 G.2.2.2.2.2 rec a1 a2 a3 a4 P = some z) {Q : xR → xH → Prop} (hQ : Q z.1 z.2) : Wp G l 45 mL_law 1583 [some (.retAddr 0), some (.ref a1), some (.ref a2), some (.ref a3), some (.int a4), none, none] [] P Q := by
  unfold b_L_law_1583 at h
  refine x_aload_nr dL_law_1583 rfl ?_
  refine x_aload_n (Or.inr ⟨_, rfl⟩) dL_law_1584 rfl ?_
  refine x_iload dL_law_1585 rfl ?_
  refine x_iconst 1 dL_law_1587 (by decide) ?_
  refine x_iadd dL_law_1588 ?_
  obtain ⟨v1, e2, h⟩ := Option.bind_eq_some_iff.mp h
  refine k_rS e2 dL_law_1589 ?_
  refine x_aload_n (Or.inr ⟨_, rfl⟩) dL_law_1590 rfl ?_
  refine x_iload dL_law_1591 rfl ?_
  refine x_iconst 2 dL_law_1593 (by decide) ?_
  refine x_iadd dL_law_1594 ?_
  obtain ⟨v3, e4, h⟩ := Option.bind_eq_some_iff.mp h
  refine k_rS e4 dL_law_1595 ?_
  refine x_if_eq 1603 dL_law_1596 (by decide) (fun q5 => ?_) (fun q5 => ?_)
  · rw [if_pos q5] at h
    refine x_iconst 0 dL_law_1603 (by decide) ?_
    exact Wp.mask [true, true, true, true, true, false, false] (hrec 1604 _ _ _ h _ _ rfl _ hQ)
  · rw [if_neg q5] at h
    refine x_iconst 1 dL_law_1599 (by decide) ?_
    refine x_goto 1604 dL_law_1600 (by decide) ?_
    exact Wp.mask [true, true, true, true, true, false, false] (hrec 1604 _ _ _ h _ _ rfl _ hQ)
set_option maxHeartbeats 2000000 in
set_option maxRecDepth 20000 in
theorem t_L_law_1604 {G : xG} {l : Launch} (hl : l.stackTraces = false) {n : Nat} {rec : Nat → List Value → xH → xO} (hrec : ∀ pc env P z, rec pc env P = some z → ∀ L st, lay_L_law pc env = some (L, st) → ∀ Q : xR → xH → Prop, Q z.1 z.2 → Wp G l 45 mL_law pc L st P Q) {a1 a2 a3 a4 s0 s1 s2} {P : xH} {z : xR × xH} (h : b_L_law_1604 n G.2.2.2.2.1 G.2.2.2.2.2 rec a1 a2 a3 a4 s0 s1 s2 P = some z) {Q : xR → xH → Prop} (hQ : Q z.1 z.2) : Wp G l 45 mL_law 1604 [some (.retAddr 0), some (.ref a1), some (.ref a2), some (.ref a3), some (.int a4), none, none] [.int s2, .int s1, .ref s0] P Q := by
  unfold b_L_law_1604 at h
  refine x_aload_nr dL_law_1604 rfl ?_
  obtain ⟨r2, e3, h⟩ := Option.bind_eq_some_iff.mp h
  replace h := xI_ok h
  obtain ⟨v4, P1, rfl, h⟩ := h
  refine x_callSH (c_L_judge hl e3) dL_law_1605 ch_L_judge wl_L_210 ws_L_judge rfl (by omega) (by decide) rfl (Nat.le_of_ble_eq_true rfl) rfl (fun v9 P9 hq9 => ?_) (fun i9 P9 hq9 => by cases hq9)
  cases hq9
  refine x_istore dL_law_1608 (Nat.le_of_ble_eq_true rfl) ?_
  refine x_aload_nr dL_law_1610 rfl ?_
  refine x_aload_n (Or.inr ⟨_, rfl⟩) dL_law_1611 rfl ?_
  refine x_iload dL_law_1612 rfl ?_
  refine x_iconst 1 dL_law_1614 (by decide) ?_
  refine x_iadd dL_law_1615 ?_
  obtain ⟨v5, e6, h⟩ := Option.bind_eq_some_iff.mp h
  refine k_rS e6 dL_law_1616 ?_
  refine x_aload_n (Or.inr ⟨_, rfl⟩) dL_law_1617 rfl ?_
  refine x_iload dL_law_1618 rfl ?_
  refine x_iconst 2 dL_law_1620 (by decide) ?_
  refine x_iadd dL_law_1621 ?_
  obtain ⟨v7, e8, h⟩ := Option.bind_eq_some_iff.mp h
  refine k_rS e8 dL_law_1622 ?_
  refine x_if_eq 1630 dL_law_1623 (by decide) (fun q9 => ?_) (fun q9 => ?_)
  · rw [if_pos q9] at h
    refine x_iconst 0 dL_law_1630 (by decide) ?_
    exact Wp.mask [true, true, true, true, true, true, false] (hrec 1631 _ _ _ h _ _ rfl _ hQ)
  · rw [if_neg q9] at h
    refine x_iconst 1 dL_law_1626 (by decide) ?_
    refine x_goto 1631 dL_law_1627 (by decide) ?_
    exact Wp.mask [true, true, true, true, true, true, false] (hrec 1631 _ _ _ h _ _ rfl _ hQ)
set_option maxHeartbeats 2000000 in
set_option maxRecDepth 20000 in
theorem t_L_law_1631 {G : xG} {l : Launch} (hl : l.stackTraces = false) {n : Nat} {rec : Nat → List Value → xH → xO} (hrec : ∀ pc env P z, rec pc env P = some z → ∀ L st, lay_L_law pc env = some (L, st) → ∀ Q : xR → xH → Prop, Q z.1 z.2 → Wp G l 45 mL_law pc L st P Q) {a1 a2 a3 a4 a5 s0 s1 s2} {P : xH} {z : xR × xH} (h : b_L_law_1631 n G.2.2.2.2.1 G.2.2.2.2.2 rec a1 a2 a3 a4 a5 s0 s1 s2 P = some z) {Q : xR → xH → Prop} (hQ : Q z.1 z.2) : Wp G l 45 mL_law 1631 [some (.retAddr 0), some (.ref a1), some (.ref a2), some (.ref a3), some (.int a4), some (.int a5), none] [.int s2, .int s1, .ref s0] P Q := by
  unfold b_L_law_1631 at h
  obtain ⟨_, e5, h⟩ := Option.bind_eq_some_iff.mp h
  obtain ⟨fse5, e5⟩ := kO_ok e5
  obtain ⟨r2, e3, h⟩ := Option.bind_eq_some_iff.mp h
  replace h := xI_ok h
  obtain ⟨v4, P1, rfl, h⟩ := h
  refine x_callV (c_X11_judge hl e3) dL_law_1631 cw_X11_judge wl_L_213 wi_X11_judge wse_X11_judge rfl e5 (by decide) rfl (by omega) (by decide) rfl (Nat.le_of_ble_eq_true rfl) rfl (fun v9 P9 hq9 => ?_) (fun i9 P9 hq9 => by cases hq9)
  cases hq9
  refine x_istore dL_law_1634 (Nat.le_of_ble_eq_true rfl) ?_
  refine x_aload_nr dL_law_1636 rfl ?_
  obtain ⟨_, e10, h⟩ := Option.bind_eq_some_iff.mp h
  obtain ⟨fse10, e10⟩ := kO_ok e10
  obtain ⟨r7, e8, h⟩ := Option.bind_eq_some_iff.mp h
  replace h := xI_ok h
  obtain ⟨v9, P6, rfl, h⟩ := h
  refine x_callV (c_X11_thrown hl e8) dL_law_1637 cw_X11_thrown wl_L_148 wi_X11_thrown wse_X11_thrown rfl e10 (by decide) rfl (by omega) (by decide) rfl (Nat.le_of_ble_eq_true rfl) rfl (fun v9 P9 hq9 => ?_) (fun i9 P9 hq9 => by cases hq9)
  cases hq9
  refine x_iload dL_law_1640 rfl ?_
  refine x_icmp_eq 1647 dL_law_1642 (by decide) (fun q15 => ?_) (fun q15 => ?_)
  · rw [if_pos q15] at h
    refine x_iload dL_law_1647 rfl ?_
    refine x_if_ne 1671 dL_law_1649 (by decide) (fun q14 => ?_) (fun q14 => ?_)
    · rw [if_pos q14] at h
      refine x_goto 2751 dL_law_1671 (by decide) ?_
      exact Wp.mask [true, true, true, true, true, false, false] (hrec 2751 _ _ _ h _ _ rfl _ hQ)
    · rw [if_neg (fun z9 => z9 q14)] at h
      refine x_aload_nr dL_law_1652 rfl ?_
      refine x_iconst 0 dL_law_1653 (by decide) ?_
      obtain ⟨v11, e12, h⟩ := Option.bind_eq_some_iff.mp h
      refine k_aJ e12 dL_law_1654 ?_
      refine x_iload dL_law_1655 rfl ?_
      refine x_if_eq 1664 dL_law_1657 (by decide) (fun q13 => ?_) (fun q13 => ?_)
      · rw [if_pos q13] at h
        refine x_lconst 0 dL_law_1664 (by decide) ?_
        exact Wp.mask [true, true, true, true, true, true, true] (hrec 1665 _ _ _ h _ _ rfl _ hQ)
      · rw [if_neg q13] at h
        refine x_lconst 1 dL_law_1660 (by decide) ?_
        refine x_goto 1665 dL_law_1661 (by decide) ?_
        exact Wp.mask [true, true, true, true, true, true, true] (hrec 1665 _ _ _ h _ _ rfl _ hQ)
  · rw [if_neg q15] at h
    refine x_iconst 0 dL_law_1645 (by decide) ?_
    cases h
    exact x_iret .boolean rfl rfl dL_law_1646 hQ
set_option maxHeartbeats 2000000 in
set_option maxRecDepth 20000 in
theorem t_L_law_1665 {G : xG} {l : Launch} (hl : l.stackTraces = false) {n : Nat} {rec : Nat → List Value → xH → xO} (hrec : ∀ pc env P z, rec pc env P = some z → ∀ L st, lay_L_law pc env = some (L, st) → ∀ Q : xR → xH → Prop, Q z.1 z.2 → Wp G l 45 mL_law pc L st P Q) {a1 a2 a3 a4 a5 a6 s0 s1} {P : xH} {z : xR × xH} (h : b_L_law_1665 n G.2.2.2.2.1 G.2.2.2.2.2 rec a1 a2 a3 a4 a5 a6 s0 s1 P = some z) {Q : xR → xH → Prop} (hQ : Q z.1 z.2) : Wp G l 45 mL_law 1665 [some (.retAddr 0), some (.ref a1), some (.ref a2), some (.ref a3), some (.int a4), some (.int a5), some (.int a6)] [.long s1, .long s0] P Q := by
  unfold b_L_law_1665 at h
  refine x_lcmp dL_law_1665 ?_
  refine x_if_eq 1671 dL_law_1666 (by decide) (fun q1 => ?_) (fun q1 => ?_)
  · rw [if_pos q1] at h
    refine x_goto 2751 dL_law_1671 (by decide) ?_
    exact Wp.mask [true, true, true, true, true, false, false] (hrec 2751 _ _ _ h _ _ rfl _ hQ)
  · rw [if_neg q1] at h
    refine x_iconst 0 dL_law_1669 (by decide) ?_
    cases h
    exact x_iret .boolean rfl rfl dL_law_1670 hQ
set_option maxHeartbeats 2000000 in
set_option maxRecDepth 20000 in
theorem t_L_law_1674 {G : xG} {l : Launch} (hl : l.stackTraces = false) {n : Nat} {rec : Nat → List Value → xH → xO} (hrec : ∀ pc env P z, rec pc env P = some z → ∀ L st, lay_L_law pc env = some (L, st) → ∀ Q : xR → xH → Prop, Q z.1 z.2 → Wp G l 45 mL_law pc L st P Q) {a1 a2 a3 a4} {P : xH} {z : xR × xH} (h : b_L_law_1674 n G.2.2.2.2.1 G.2.2.2.2.2 rec a1 a2 a3 a4 P = some z) {Q : xR → xH → Prop} (hQ : Q z.1 z.2) : Wp G l 45 mL_law 1674 [some (.retAddr 0), some (.ref a1), some (.ref a2), some (.ref a3), some (.int a4), none, none] [] P Q := by
  unfold b_L_law_1674 at h
  refine x_aload_nr dL_law_1674 rfl ?_
  refine x_aload_n (Or.inr ⟨_, rfl⟩) dL_law_1675 rfl ?_
  refine x_iload dL_law_1676 rfl ?_
  refine x_iconst 1 dL_law_1678 (by decide) ?_
  refine x_iadd dL_law_1679 ?_
  obtain ⟨v1, e2, h⟩ := Option.bind_eq_some_iff.mp h
  refine k_rS e2 dL_law_1680 ?_
  refine x_aload_nr dL_law_1681 rfl ?_
  obtain ⟨r4, e5, h⟩ := Option.bind_eq_some_iff.mp h
  replace h := xI_ok h
  obtain ⟨v6, P3, rfl, h⟩ := h
  refine x_callSH (c_L_weight hl e5) dL_law_1682 ch_L_weight wl_L_214 ws_L_weight rfl (by omega) (by decide) rfl (Nat.le_of_ble_eq_true rfl) rfl (fun v9 P9 hq9 => ?_) (fun i9 P9 hq9 => by cases hq9)
  cases hq9
  refine x_istore dL_law_1685 (Nat.le_of_ble_eq_true rfl) ?_
  refine x_aload_nr dL_law_1687 rfl ?_
  refine x_aload_n (Or.inr ⟨_, rfl⟩) dL_law_1688 rfl ?_
  refine x_iload dL_law_1689 rfl ?_
  refine x_iconst 1 dL_law_1691 (by decide) ?_
  refine x_iadd dL_law_1692 ?_
  obtain ⟨v7, e8, h⟩ := Option.bind_eq_some_iff.mp h
  refine k_rS e8 dL_law_1693 ?_
  obtain ⟨_, e13, h⟩ := Option.bind_eq_some_iff.mp h
  obtain ⟨fse13, e13⟩ := kO_ok e13
  obtain ⟨r10, e11, h⟩ := Option.bind_eq_some_iff.mp h
  replace h := xI_ok h
  obtain ⟨v12, P9, rfl, h⟩ := h
  refine x_callV (c_X11_weight hl e11) dL_law_1694 cw_X11_weight wl_L_216 wi_X11_weight wse_X11_weight rfl e13 (by decide) rfl (by omega) (by decide) rfl (Nat.le_of_ble_eq_true rfl) rfl (fun v9 P9 hq9 => ?_) (fun i9 P9 hq9 => by cases hq9)
  cases hq9
  refine x_istore dL_law_1697 (Nat.le_of_ble_eq_true rfl) ?_
  refine x_aload_nr dL_law_1699 rfl ?_
  obtain ⟨_, e18, h⟩ := Option.bind_eq_some_iff.mp h
  obtain ⟨fse18, e18⟩ := kO_ok e18
  obtain ⟨r15, e16, h⟩ := Option.bind_eq_some_iff.mp h
  replace h := xI_ok h
  obtain ⟨v17, P14, rfl, h⟩ := h
  refine x_callV (c_X11_thrown hl e16) dL_law_1700 cw_X11_thrown wl_L_148 wi_X11_thrown wse_X11_thrown rfl e18 (by decide) rfl (by omega) (by decide) rfl (Nat.le_of_ble_eq_true rfl) rfl (fun v9 P9 hq9 => ?_) (fun i9 P9 hq9 => by cases hq9)
  cases hq9
  refine x_iload dL_law_1703 rfl ?_
  refine x_icmp_eq 1710 dL_law_1705 (by decide) (fun q23 => ?_) (fun q23 => ?_)
  · rw [if_pos q23] at h
    refine x_iload dL_law_1710 rfl ?_
    refine x_if_ne 1727 dL_law_1712 (by decide) (fun q22 => ?_) (fun q22 => ?_)
    · rw [if_pos q22] at h
      refine x_goto 2751 dL_law_1727 (by decide) ?_
      exact Wp.mask [true, true, true, true, true, false, false] (hrec 2751 _ _ _ h _ _ rfl _ hQ)
    · rw [if_neg (fun z9 => z9 q22)] at h
      refine x_aload_nr dL_law_1715 rfl ?_
      refine x_iconst 0 dL_law_1716 (by decide) ?_
      obtain ⟨v19, e20, h⟩ := Option.bind_eq_some_iff.mp h
      refine k_aJ e20 dL_law_1717 ?_
      refine x_iload dL_law_1718 rfl ?_
      refine x_i2l dL_law_1720 ?_
      refine x_lcmp dL_law_1721 ?_
      refine x_if_eq 1727 dL_law_1722 (by decide) (fun q21 => ?_) (fun q21 => ?_)
      · rw [if_pos q21] at h
        refine x_goto 2751 dL_law_1727 (by decide) ?_
        exact Wp.mask [true, true, true, true, true, false, false] (hrec 2751 _ _ _ h _ _ rfl _ hQ)
      · rw [if_neg q21] at h
        refine x_iconst 0 dL_law_1725 (by decide) ?_
        cases h
        exact x_iret .boolean rfl rfl dL_law_1726 hQ
  · rw [if_neg q23] at h
    refine x_iconst 0 dL_law_1708 (by decide) ?_
    cases h
    exact x_iret .boolean rfl rfl dL_law_1709 hQ
set_option maxHeartbeats 2000000 in
set_option maxRecDepth 20000 in
theorem t_L_law_1730 {G : xG} {l : Launch} (hl : l.stackTraces = false) {n : Nat} {rec : Nat → List Value → xH → xO} (hrec : ∀ pc env P z, rec pc env P = some z → ∀ L st, lay_L_law pc env = some (L, st) → ∀ Q : xR → xH → Prop, Q z.1 z.2 → Wp G l 45 mL_law pc L st P Q) {a1 a2 a3 a4} {P : xH} {z : xR × xH} (h : b_L_law_1730 n G.2.2.2.2.1 G.2.2.2.2.2 rec a1 a2 a3 a4 P = some z) {Q : xR → xH → Prop} (hQ : Q z.1 z.2) : Wp G l 45 mL_law 1730 [some (.retAddr 0), some (.ref a1), some (.ref a2), some (.ref a3), some (.int a4), none, none] [] P Q := by
  unfold b_L_law_1730 at h
  refine x_aload_nr dL_law_1730 rfl ?_
  refine x_aload_n (Or.inr ⟨_, rfl⟩) dL_law_1731 rfl ?_
  refine x_iload dL_law_1732 rfl ?_
  refine x_iconst 1 dL_law_1734 (by decide) ?_
  refine x_iadd dL_law_1735 ?_
  obtain ⟨v1, e2, h⟩ := Option.bind_eq_some_iff.mp h
  refine k_rS e2 dL_law_1736 ?_
  refine x_aload_n (Or.inr ⟨_, rfl⟩) dL_law_1737 rfl ?_
  refine x_iload dL_law_1738 rfl ?_
  refine x_iconst 2 dL_law_1740 (by decide) ?_
  refine x_iadd dL_law_1741 ?_
  obtain ⟨v3, e4, h⟩ := Option.bind_eq_some_iff.mp h
  refine k_rS e4 dL_law_1742 ?_
  refine x_aload_nr dL_law_1743 rfl ?_
  obtain ⟨r6, e7, h⟩ := Option.bind_eq_some_iff.mp h
  replace h := xI_ok h
  obtain ⟨v8, P5, rfl, h⟩ := h
  refine x_callSH (c_L_sure hl e7) dL_law_1744 ch_L_sure wl_L_217 ws_L_sure rfl (by omega) (by decide) rfl (Nat.le_of_ble_eq_true rfl) rfl (fun v9 P9 hq9 => ?_) (fun i9 P9 hq9 => by cases hq9)
  cases hq9
  refine x_istore dL_law_1747 (Nat.le_of_ble_eq_true rfl) ?_
  refine x_aload_nr dL_law_1749 rfl ?_
  refine x_aload_n (Or.inr ⟨_, rfl⟩) dL_law_1750 rfl ?_
  refine x_iload dL_law_1751 rfl ?_
  refine x_iconst 1 dL_law_1753 (by decide) ?_
  refine x_iadd dL_law_1754 ?_
  obtain ⟨v9, e10, h⟩ := Option.bind_eq_some_iff.mp h
  refine k_rS e10 dL_law_1755 ?_
  refine x_aload_n (Or.inr ⟨_, rfl⟩) dL_law_1756 rfl ?_
  refine x_iload dL_law_1757 rfl ?_
  refine x_iconst 2 dL_law_1759 (by decide) ?_
  refine x_iadd dL_law_1760 ?_
  obtain ⟨v11, e12, h⟩ := Option.bind_eq_some_iff.mp h
  refine k_rS e12 dL_law_1761 ?_
  obtain ⟨_, e17, h⟩ := Option.bind_eq_some_iff.mp h
  obtain ⟨fse17, e17⟩ := kO_ok e17
  obtain ⟨r14, e15, h⟩ := Option.bind_eq_some_iff.mp h
  replace h := xI_ok h
  obtain ⟨v16, P13, rfl, h⟩ := h
  refine x_callV (c_X11_sure hl e15) dL_law_1762 cw_X11_sure wl_L_219 wi_X11_sure wse_X11_sure rfl e17 (by decide) rfl (by omega) (by decide) rfl (Nat.le_of_ble_eq_true rfl) rfl (fun v9 P9 hq9 => ?_) (fun i9 P9 hq9 => by cases hq9)
  cases hq9
  refine x_istore dL_law_1765 (Nat.le_of_ble_eq_true rfl) ?_
  refine x_aload_nr dL_law_1767 rfl ?_
  obtain ⟨_, e22, h⟩ := Option.bind_eq_some_iff.mp h
  obtain ⟨fse22, e22⟩ := kO_ok e22
  obtain ⟨r19, e20, h⟩ := Option.bind_eq_some_iff.mp h
  replace h := xI_ok h
  obtain ⟨v21, P18, rfl, h⟩ := h
  refine x_callV (c_X11_thrown hl e20) dL_law_1768 cw_X11_thrown wl_L_148 wi_X11_thrown wse_X11_thrown rfl e22 (by decide) rfl (by omega) (by decide) rfl (Nat.le_of_ble_eq_true rfl) rfl (fun v9 P9 hq9 => ?_) (fun i9 P9 hq9 => by cases hq9)
  cases hq9
  refine x_iload dL_law_1771 rfl ?_
  refine x_icmp_eq 1778 dL_law_1773 (by decide) (fun q27 => ?_) (fun q27 => ?_)
  · rw [if_pos q27] at h
    refine x_iload dL_law_1778 rfl ?_
    refine x_if_ne 1795 dL_law_1780 (by decide) (fun q26 => ?_) (fun q26 => ?_)
    · rw [if_pos q26] at h
      refine x_goto 2751 dL_law_1795 (by decide) ?_
      exact Wp.mask [true, true, true, true, true, false, false] (hrec 2751 _ _ _ h _ _ rfl _ hQ)
    · rw [if_neg (fun z9 => z9 q26)] at h
      refine x_aload_nr dL_law_1783 rfl ?_
      refine x_iconst 0 dL_law_1784 (by decide) ?_
      obtain ⟨v23, e24, h⟩ := Option.bind_eq_some_iff.mp h
      refine k_aJ e24 dL_law_1785 ?_
      refine x_iload dL_law_1786 rfl ?_
      refine x_i2l dL_law_1788 ?_
      refine x_lcmp dL_law_1789 ?_
      refine x_if_eq 1795 dL_law_1790 (by decide) (fun q25 => ?_) (fun q25 => ?_)
      · rw [if_pos q25] at h
        refine x_goto 2751 dL_law_1795 (by decide) ?_
        exact Wp.mask [true, true, true, true, true, false, false] (hrec 2751 _ _ _ h _ _ rfl _ hQ)
      · rw [if_neg q25] at h
        refine x_iconst 0 dL_law_1793 (by decide) ?_
        cases h
        exact x_iret .boolean rfl rfl dL_law_1794 hQ
  · rw [if_neg q27] at h
    refine x_iconst 0 dL_law_1776 (by decide) ?_
    cases h
    exact x_iret .boolean rfl rfl dL_law_1777 hQ
set_option maxHeartbeats 2000000 in
set_option maxRecDepth 20000 in
theorem t_L_law_1798 {G : xG} {l : Launch} (hl : l.stackTraces = false) {n : Nat} {rec : Nat → List Value → xH → xO} (hrec : ∀ pc env P z, rec pc env P = some z → ∀ L st, lay_L_law pc env = some (L, st) → ∀ Q : xR → xH → Prop, Q z.1 z.2 → Wp G l 45 mL_law pc L st P Q) {a1 a2 a3 a4} {P : xH} {z : xR × xH} (h : b_L_law_1798 n G.2.2.2.2.1 G.2.2.2.2.2 rec a1 a2 a3 a4 P = some z) {Q : xR → xH → Prop} (hQ : Q z.1 z.2) : Wp G l 45 mL_law 1798 [some (.retAddr 0), some (.ref a1), some (.ref a2), some (.ref a3), some (.int a4), none, none] [] P Q := by
  unfold b_L_law_1798 at h
  refine x_aload_nr dL_law_1798 rfl ?_
  refine x_aload_n (Or.inr ⟨_, rfl⟩) dL_law_1799 rfl ?_
  refine x_iload dL_law_1800 rfl ?_
  refine x_iconst 1 dL_law_1802 (by decide) ?_
  refine x_iadd dL_law_1803 ?_
  obtain ⟨v1, e2, h⟩ := Option.bind_eq_some_iff.mp h
  refine k_rS e2 dL_law_1804 ?_
  refine x_aload_n (Or.inr ⟨_, rfl⟩) dL_law_1805 rfl ?_
  refine x_iload dL_law_1806 rfl ?_
  refine x_iconst 2 dL_law_1808 (by decide) ?_
  refine x_iadd dL_law_1809 ?_
  obtain ⟨v3, e4, h⟩ := Option.bind_eq_some_iff.mp h
  refine k_rS e4 dL_law_1810 ?_
  refine x_aload_n (Or.inr ⟨_, rfl⟩) dL_law_1811 rfl ?_
  refine x_iload dL_law_1812 rfl ?_
  refine x_iconst 3 dL_law_1814 (by decide) ?_
  refine x_iadd dL_law_1815 ?_
  obtain ⟨v5, e6, h⟩ := Option.bind_eq_some_iff.mp h
  refine k_rS e6 dL_law_1816 ?_
  refine x_aload_nr dL_law_1817 rfl ?_
  obtain ⟨r8, e9, h⟩ := Option.bind_eq_some_iff.mp h
  replace h := xI_ok h
  obtain ⟨v10, P7, rfl, h⟩ := h
  refine x_callSH (c_L_describe hl e9) dL_law_1818 ch_L_describe wl_L_220 ws_L_describe rfl (by omega) (by decide) rfl (Nat.le_of_ble_eq_true rfl) rfl (fun v9 P9 hq9 => ?_) (fun i9 P9 hq9 => by cases hq9)
  cases hq9
  refine x_istore dL_law_1821 (Nat.le_of_ble_eq_true rfl) ?_
  refine x_aload_nr dL_law_1823 rfl ?_
  refine x_aload_n (Or.inr ⟨_, rfl⟩) dL_law_1824 rfl ?_
  refine x_iload dL_law_1825 rfl ?_
  refine x_iconst 1 dL_law_1827 (by decide) ?_
  refine x_iadd dL_law_1828 ?_
  obtain ⟨v11, e12, h⟩ := Option.bind_eq_some_iff.mp h
  refine k_rS e12 dL_law_1829 ?_
  refine x_aload_n (Or.inr ⟨_, rfl⟩) dL_law_1830 rfl ?_
  refine x_iload dL_law_1831 rfl ?_
  refine x_iconst 2 dL_law_1833 (by decide) ?_
  refine x_iadd dL_law_1834 ?_
  obtain ⟨v13, e14, h⟩ := Option.bind_eq_some_iff.mp h
  refine k_rS e14 dL_law_1835 ?_
  refine x_aload_n (Or.inr ⟨_, rfl⟩) dL_law_1836 rfl ?_
  refine x_iload dL_law_1837 rfl ?_
  refine x_iconst 3 dL_law_1839 (by decide) ?_
  refine x_iadd dL_law_1840 ?_
  obtain ⟨v15, e16, h⟩ := Option.bind_eq_some_iff.mp h
  refine k_rS e16 dL_law_1841 ?_
  obtain ⟨_, e21, h⟩ := Option.bind_eq_some_iff.mp h
  obtain ⟨fse21, e21⟩ := kO_ok e21
  obtain ⟨r18, e19, h⟩ := Option.bind_eq_some_iff.mp h
  replace h := xI_ok h
  obtain ⟨v20, P17, rfl, h⟩ := h
  refine x_callV (c_X11_describe hl e19) dL_law_1842 cw_X11_describe wl_L_222 wi_X11_describe wse_X11_describe rfl e21 (by decide) rfl (by omega) (by decide) rfl (Nat.le_of_ble_eq_true rfl) rfl (fun v9 P9 hq9 => ?_) (fun i9 P9 hq9 => by cases hq9)
  cases hq9
  refine x_istore dL_law_1845 (Nat.le_of_ble_eq_true rfl) ?_
  refine x_aload_nr dL_law_1847 rfl ?_
  obtain ⟨_, e26, h⟩ := Option.bind_eq_some_iff.mp h
  obtain ⟨fse26, e26⟩ := kO_ok e26
  obtain ⟨r23, e24, h⟩ := Option.bind_eq_some_iff.mp h
  replace h := xI_ok h
  obtain ⟨v25, P22, rfl, h⟩ := h
  refine x_callV (c_X11_thrown hl e24) dL_law_1848 cw_X11_thrown wl_L_148 wi_X11_thrown wse_X11_thrown rfl e26 (by decide) rfl (by omega) (by decide) rfl (Nat.le_of_ble_eq_true rfl) rfl (fun v9 P9 hq9 => ?_) (fun i9 P9 hq9 => by cases hq9)
  cases hq9
  refine x_iload dL_law_1851 rfl ?_
  refine x_icmp_eq 1858 dL_law_1853 (by decide) (fun q31 => ?_) (fun q31 => ?_)
  · rw [if_pos q31] at h
    refine x_iload dL_law_1858 rfl ?_
    refine x_if_ne 1875 dL_law_1860 (by decide) (fun q30 => ?_) (fun q30 => ?_)
    · rw [if_pos q30] at h
      refine x_goto 2751 dL_law_1875 (by decide) ?_
      exact Wp.mask [true, true, true, true, true, false, false] (hrec 2751 _ _ _ h _ _ rfl _ hQ)
    · rw [if_neg (fun z9 => z9 q30)] at h
      refine x_aload_nr dL_law_1863 rfl ?_
      refine x_iconst 0 dL_law_1864 (by decide) ?_
      obtain ⟨v27, e28, h⟩ := Option.bind_eq_some_iff.mp h
      refine k_aJ e28 dL_law_1865 ?_
      refine x_iload dL_law_1866 rfl ?_
      refine x_i2l dL_law_1868 ?_
      refine x_lcmp dL_law_1869 ?_
      refine x_if_eq 1875 dL_law_1870 (by decide) (fun q29 => ?_) (fun q29 => ?_)
      · rw [if_pos q29] at h
        refine x_goto 2751 dL_law_1875 (by decide) ?_
        exact Wp.mask [true, true, true, true, true, false, false] (hrec 2751 _ _ _ h _ _ rfl _ hQ)
      · rw [if_neg q29] at h
        refine x_iconst 0 dL_law_1873 (by decide) ?_
        cases h
        exact x_iret .boolean rfl rfl dL_law_1874 hQ
  · rw [if_neg q31] at h
    refine x_iconst 0 dL_law_1856 (by decide) ?_
    cases h
    exact x_iret .boolean rfl rfl dL_law_1857 hQ
set_option maxHeartbeats 2000000 in
set_option maxRecDepth 20000 in
theorem t_L_law_1878 {G : xG} {l : Launch} (hl : l.stackTraces = false) {n : Nat} {rec : Nat → List Value → xH → xO} (hrec : ∀ pc env P z, rec pc env P = some z → ∀ L st, lay_L_law pc env = some (L, st) → ∀ Q : xR → xH → Prop, Q z.1 z.2 → Wp G l 45 mL_law pc L st P Q) {a1 a2 a3 a4} {P : xH} {z : xR × xH} (h : b_L_law_1878 n G.2.2.2.2.1 G.2.2.2.2.2 rec a1 a2 a3 a4 P = some z) {Q : xR → xH → Prop} (hQ : Q z.1 z.2) : Wp G l 45 mL_law 1878 [some (.retAddr 0), some (.ref a1), some (.ref a2), some (.ref a3), some (.int a4), none, none] [] P Q := by
  unfold b_L_law_1878 at h
  refine x_aload_nr dL_law_1878 rfl ?_
  refine x_aload_n (Or.inr ⟨_, rfl⟩) dL_law_1879 rfl ?_
  refine x_iload dL_law_1880 rfl ?_
  refine x_iconst 1 dL_law_1882 (by decide) ?_
  refine x_iadd dL_law_1883 ?_
  obtain ⟨v1, e2, h⟩ := Option.bind_eq_some_iff.mp h
  refine k_rS e2 dL_law_1884 ?_
  obtain ⟨r4, e5, h⟩ := Option.bind_eq_some_iff.mp h
  replace h := xI_ok h
  obtain ⟨v6, P3, rfl, h⟩ := h
  refine x_callSH (c_L_apart hl e5) dL_law_1885 ch_L_apart wl_L_223 ws_L_apart rfl (by omega) (by decide) rfl (Nat.le_of_ble_eq_true rfl) rfl (fun v9 P9 hq9 => ?_) (fun i9 P9 hq9 => by cases hq9)
  cases hq9
  refine x_istore dL_law_1888 (Nat.le_of_ble_eq_true rfl) ?_
  refine x_aload_nr dL_law_1890 rfl ?_
  refine x_aload_n (Or.inr ⟨_, rfl⟩) dL_law_1891 rfl ?_
  refine x_iload dL_law_1892 rfl ?_
  refine x_iconst 1 dL_law_1894 (by decide) ?_
  refine x_iadd dL_law_1895 ?_
  obtain ⟨v7, e8, h⟩ := Option.bind_eq_some_iff.mp h
  refine k_rS e8 dL_law_1896 ?_
  obtain ⟨_, e12, h⟩ := Option.bind_eq_some_iff.mp h
  obtain ⟨fse12, e12⟩ := kO_ok e12
  obtain ⟨r10, e11, h⟩ := Option.bind_eq_some_iff.mp h
  replace h := xU_ok h
  obtain ⟨P9, rfl, h⟩ := h
  refine x_callV (c_X11_apart hl e11) dL_law_1897 cw_X11_apart wl_L_225 wi_X11_apart wse_X11_apart rfl e12 (by decide) rfl (by omega) (by decide) rfl (Nat.le_of_ble_eq_true rfl) rfl (fun v9 P9 hq9 => ?_) (fun i9 P9 hq9 => by cases hq9)
  cases hq9
  refine x_aload_nr dL_law_1900 rfl ?_
  obtain ⟨_, e17, h⟩ := Option.bind_eq_some_iff.mp h
  obtain ⟨fse17, e17⟩ := kO_ok e17
  obtain ⟨r14, e15, h⟩ := Option.bind_eq_some_iff.mp h
  replace h := xI_ok h
  obtain ⟨v16, P13, rfl, h⟩ := h
  refine x_callV (c_X11_thrown hl e15) dL_law_1901 cw_X11_thrown wl_L_148 wi_X11_thrown wse_X11_thrown rfl e17 (by decide) rfl (by omega) (by decide) rfl (Nat.le_of_ble_eq_true rfl) rfl (fun v9 P9 hq9 => ?_) (fun i9 P9 hq9 => by cases hq9)
  cases hq9
  refine x_iload dL_law_1904 rfl ?_
  refine x_icmp_eq 1911 dL_law_1906 (by decide) (fun q18 => ?_) (fun q18 => ?_)
  · rw [if_pos q18] at h
    refine x_goto 2751 dL_law_1911 (by decide) ?_
    exact Wp.mask [true, true, true, true, true, false, false] (hrec 2751 _ _ _ h _ _ rfl _ hQ)
  · rw [if_neg q18] at h
    refine x_iconst 0 dL_law_1909 (by decide) ?_
    cases h
    exact x_iret .boolean rfl rfl dL_law_1910 hQ
set_option maxHeartbeats 2000000 in
set_option maxRecDepth 20000 in
theorem t_L_law_1914 {G : xG} {l : Launch} (hl : l.stackTraces = false) {n : Nat} {rec : Nat → List Value → xH → xO} (hrec : ∀ pc env P z, rec pc env P = some z → ∀ L st, lay_L_law pc env = some (L, st) → ∀ Q : xR → xH → Prop, Q z.1 z.2 → Wp G l 45 mL_law pc L st P Q) {a1 a2 a3 a4} {P : xH} {z : xR × xH} (h : b_L_law_1914 n G.2.2.2.2.1 G.2.2.2.2.2 rec a1 a2 a3 a4 P = some z) {Q : xR → xH → Prop} (hQ : Q z.1 z.2) : Wp G l 45 mL_law 1914 [some (.retAddr 0), some (.ref a1), some (.ref a2), some (.ref a3), some (.int a4), none, none] [] P Q := by
  unfold b_L_law_1914 at h
  refine x_aload_nr dL_law_1914 rfl ?_
  refine x_aload_n (Or.inr ⟨_, rfl⟩) dL_law_1915 rfl ?_
  refine x_iload dL_law_1916 rfl ?_
  refine x_iconst 1 dL_law_1918 (by decide) ?_
  refine x_iadd dL_law_1919 ?_
  obtain ⟨v1, e2, h⟩ := Option.bind_eq_some_iff.mp h
  refine k_rS e2 dL_law_1920 ?_
  refine x_aload_nr dL_law_1921 rfl ?_
  obtain ⟨r4, e5, h⟩ := Option.bind_eq_some_iff.mp h
  replace h := xI_ok h
  obtain ⟨v6, P3, rfl, h⟩ := h
  refine x_callSH (c_L_heaps hl e5) dL_law_1922 ch_L_heaps wl_L_226 ws_L_heaps rfl (by omega) (by decide) rfl (Nat.le_of_ble_eq_true rfl) rfl (fun v9 P9 hq9 => ?_) (fun i9 P9 hq9 => by cases hq9)
  cases hq9
  refine x_istore dL_law_1925 (Nat.le_of_ble_eq_true rfl) ?_
  refine x_aload_nr dL_law_1927 rfl ?_
  refine x_aload_n (Or.inr ⟨_, rfl⟩) dL_law_1928 rfl ?_
  refine x_iload dL_law_1929 rfl ?_
  refine x_iconst 1 dL_law_1931 (by decide) ?_
  refine x_iadd dL_law_1932 ?_
  obtain ⟨v7, e8, h⟩ := Option.bind_eq_some_iff.mp h
  refine k_rS e8 dL_law_1933 ?_
  obtain ⟨_, e13, h⟩ := Option.bind_eq_some_iff.mp h
  obtain ⟨fse13, e13⟩ := kO_ok e13
  obtain ⟨r10, e11, h⟩ := Option.bind_eq_some_iff.mp h
  replace h := xI_ok h
  obtain ⟨v12, P9, rfl, h⟩ := h
  refine x_callV (c_X11_heaps hl e11) dL_law_1934 cw_X11_heaps wl_L_228 wi_X11_heaps wse_X11_heaps rfl e13 (by decide) rfl (by omega) (by decide) rfl (Nat.le_of_ble_eq_true rfl) rfl (fun v9 P9 hq9 => ?_) (fun i9 P9 hq9 => by cases hq9)
  cases hq9
  refine x_istore dL_law_1937 (Nat.le_of_ble_eq_true rfl) ?_
  refine x_aload_nr dL_law_1939 rfl ?_
  obtain ⟨_, e18, h⟩ := Option.bind_eq_some_iff.mp h
  obtain ⟨fse18, e18⟩ := kO_ok e18
  obtain ⟨r15, e16, h⟩ := Option.bind_eq_some_iff.mp h
  replace h := xI_ok h
  obtain ⟨v17, P14, rfl, h⟩ := h
  refine x_callV (c_X11_thrown hl e16) dL_law_1940 cw_X11_thrown wl_L_148 wi_X11_thrown wse_X11_thrown rfl e18 (by decide) rfl (by omega) (by decide) rfl (Nat.le_of_ble_eq_true rfl) rfl (fun v9 P9 hq9 => ?_) (fun i9 P9 hq9 => by cases hq9)
  cases hq9
  refine x_iload dL_law_1943 rfl ?_
  refine x_icmp_eq 1950 dL_law_1945 (by decide) (fun q23 => ?_) (fun q23 => ?_)
  · rw [if_pos q23] at h
    refine x_iload dL_law_1950 rfl ?_
    refine x_if_ne 1967 dL_law_1952 (by decide) (fun q22 => ?_) (fun q22 => ?_)
    · rw [if_pos q22] at h
      refine x_goto 2751 dL_law_1967 (by decide) ?_
      exact Wp.mask [true, true, true, true, true, false, false] (hrec 2751 _ _ _ h _ _ rfl _ hQ)
    · rw [if_neg (fun z9 => z9 q22)] at h
      refine x_aload_nr dL_law_1955 rfl ?_
      refine x_iconst 0 dL_law_1956 (by decide) ?_
      obtain ⟨v19, e20, h⟩ := Option.bind_eq_some_iff.mp h
      refine k_aJ e20 dL_law_1957 ?_
      refine x_iload dL_law_1958 rfl ?_
      refine x_i2l dL_law_1960 ?_
      refine x_lcmp dL_law_1961 ?_
      refine x_if_eq 1967 dL_law_1962 (by decide) (fun q21 => ?_) (fun q21 => ?_)
      · rw [if_pos q21] at h
        refine x_goto 2751 dL_law_1967 (by decide) ?_
        exact Wp.mask [true, true, true, true, true, false, false] (hrec 2751 _ _ _ h _ _ rfl _ hQ)
      · rw [if_neg q21] at h
        refine x_iconst 0 dL_law_1965 (by decide) ?_
        cases h
        exact x_iret .boolean rfl rfl dL_law_1966 hQ
  · rw [if_neg q23] at h
    refine x_iconst 0 dL_law_1948 (by decide) ?_
    cases h
    exact x_iret .boolean rfl rfl dL_law_1949 hQ
set_option maxHeartbeats 2000000 in
set_option maxRecDepth 20000 in
theorem t_L_law_1970 {G : xG} {l : Launch} (hl : l.stackTraces = false) {n : Nat} {rec : Nat → List Value → xH → xO} (hrec : ∀ pc env P z, rec pc env P = some z → ∀ L st, lay_L_law pc env = some (L, st) → ∀ Q : xR → xH → Prop, Q z.1 z.2 → Wp G l 45 mL_law pc L st P Q) {a1 a2 a3 a4} {P : xH} {z : xR × xH} (h : b_L_law_1970 n G.2.2.2.2.1 G.2.2.2.2.2 rec a1 a2 a3 a4 P = some z) {Q : xR → xH → Prop} (hQ : Q z.1 z.2) : Wp G l 45 mL_law 1970 [some (.retAddr 0), some (.ref a1), some (.ref a2), some (.ref a3), some (.int a4), none, none] [] P Q := by
  unfold b_L_law_1970 at h
  refine x_aload_nr dL_law_1970 rfl ?_
  refine x_aload_n (Or.inr ⟨_, rfl⟩) dL_law_1971 rfl ?_
  refine x_iload dL_law_1972 rfl ?_
  refine x_iconst 1 dL_law_1974 (by decide) ?_
  refine x_iadd dL_law_1975 ?_
  obtain ⟨v1, e2, h⟩ := Option.bind_eq_some_iff.mp h
  refine k_rS e2 dL_law_1976 ?_
  refine x_aload_nr dL_law_1977 rfl ?_
  obtain ⟨r4, e5, h⟩ := Option.bind_eq_some_iff.mp h
  replace h := xI_ok h
  obtain ⟨v6, P3, rfl, h⟩ := h
  refine x_callSH (c_L_heap hl e5) dL_law_1978 ch_L_heap wl_L_229 ws_L_heap rfl (by omega) (by decide) rfl (Nat.le_of_ble_eq_true rfl) rfl (fun v9 P9 hq9 => ?_) (fun i9 P9 hq9 => by cases hq9)
  cases hq9
  refine x_istore dL_law_1981 (Nat.le_of_ble_eq_true rfl) ?_
  refine x_aload_nr dL_law_1983 rfl ?_
  refine x_aload_n (Or.inr ⟨_, rfl⟩) dL_law_1984 rfl ?_
  refine x_iload dL_law_1985 rfl ?_
  refine x_iconst 1 dL_law_1987 (by decide) ?_
  refine x_iadd dL_law_1988 ?_
  obtain ⟨v7, e8, h⟩ := Option.bind_eq_some_iff.mp h
  refine k_rS e8 dL_law_1989 ?_
  obtain ⟨_, e13, h⟩ := Option.bind_eq_some_iff.mp h
  obtain ⟨fse13, e13⟩ := kO_ok e13
  obtain ⟨r10, e11, h⟩ := Option.bind_eq_some_iff.mp h
  replace h := xI_ok h
  obtain ⟨v12, P9, rfl, h⟩ := h
  refine x_callV (c_X11_heap hl e11) dL_law_1990 cw_X11_heap wl_L_231 wi_X11_heap wse_X11_heap rfl e13 (by decide) rfl (by omega) (by decide) rfl (Nat.le_of_ble_eq_true rfl) rfl (fun v9 P9 hq9 => ?_) (fun i9 P9 hq9 => by cases hq9)
  cases hq9
  refine x_istore dL_law_1993 (Nat.le_of_ble_eq_true rfl) ?_
  refine x_aload_nr dL_law_1995 rfl ?_
  obtain ⟨_, e18, h⟩ := Option.bind_eq_some_iff.mp h
  obtain ⟨fse18, e18⟩ := kO_ok e18
  obtain ⟨r15, e16, h⟩ := Option.bind_eq_some_iff.mp h
  replace h := xI_ok h
  obtain ⟨v17, P14, rfl, h⟩ := h
  refine x_callV (c_X11_thrown hl e16) dL_law_1996 cw_X11_thrown wl_L_148 wi_X11_thrown wse_X11_thrown rfl e18 (by decide) rfl (by omega) (by decide) rfl (Nat.le_of_ble_eq_true rfl) rfl (fun v9 P9 hq9 => ?_) (fun i9 P9 hq9 => by cases hq9)
  cases hq9
  refine x_iload dL_law_1999 rfl ?_
  refine x_icmp_eq 2006 dL_law_2001 (by decide) (fun q23 => ?_) (fun q23 => ?_)
  · rw [if_pos q23] at h
    refine x_iload dL_law_2006 rfl ?_
    refine x_if_ne 2023 dL_law_2008 (by decide) (fun q22 => ?_) (fun q22 => ?_)
    · rw [if_pos q22] at h
      refine x_goto 2751 dL_law_2023 (by decide) ?_
      exact Wp.mask [true, true, true, true, true, false, false] (hrec 2751 _ _ _ h _ _ rfl _ hQ)
    · rw [if_neg (fun z9 => z9 q22)] at h
      refine x_aload_nr dL_law_2011 rfl ?_
      refine x_iconst 0 dL_law_2012 (by decide) ?_
      obtain ⟨v19, e20, h⟩ := Option.bind_eq_some_iff.mp h
      refine k_aJ e20 dL_law_2013 ?_
      refine x_iload dL_law_2014 rfl ?_
      refine x_i2l dL_law_2016 ?_
      refine x_lcmp dL_law_2017 ?_
      refine x_if_eq 2023 dL_law_2018 (by decide) (fun q21 => ?_) (fun q21 => ?_)
      · rw [if_pos q21] at h
        refine x_goto 2751 dL_law_2023 (by decide) ?_
        exact Wp.mask [true, true, true, true, true, false, false] (hrec 2751 _ _ _ h _ _ rfl _ hQ)
      · rw [if_neg q21] at h
        refine x_iconst 0 dL_law_2021 (by decide) ?_
        cases h
        exact x_iret .boolean rfl rfl dL_law_2022 hQ
  · rw [if_neg q23] at h
    refine x_iconst 0 dL_law_2004 (by decide) ?_
    cases h
    exact x_iret .boolean rfl rfl dL_law_2005 hQ
set_option maxHeartbeats 2000000 in
set_option maxRecDepth 20000 in
theorem t_L_law_2026 {G : xG} {l : Launch} (hl : l.stackTraces = false) {n : Nat} {rec : Nat → List Value → xH → xO} (hrec : ∀ pc env P z, rec pc env P = some z → ∀ L st, lay_L_law pc env = some (L, st) → ∀ Q : xR → xH → Prop, Q z.1 z.2 → Wp G l 45 mL_law pc L st P Q) {a1 a2 a3 a4} {P : xH} {z : xR × xH} (h : b_L_law_2026 n G.2.2.2.2.1 G.2.2.2.2.2 rec a1 a2 a3 a4 P = some z) {Q : xR → xH → Prop} (hQ : Q z.1 z.2) : Wp G l 45 mL_law 2026 [some (.retAddr 0), some (.ref a1), some (.ref a2), some (.ref a3), some (.int a4), none, none] [] P Q := by
  unfold b_L_law_2026 at h
  refine x_aload_nr dL_law_2026 rfl ?_
  refine x_aload_n (Or.inr ⟨_, rfl⟩) dL_law_2027 rfl ?_
  refine x_iload dL_law_2028 rfl ?_
  refine x_iconst 1 dL_law_2030 (by decide) ?_
  refine x_iadd dL_law_2031 ?_
  obtain ⟨v1, e2, h⟩ := Option.bind_eq_some_iff.mp h
  refine k_rS e2 dL_law_2032 ?_
  refine x_aload_n (Or.inr ⟨_, rfl⟩) dL_law_2033 rfl ?_
  refine x_iload dL_law_2034 rfl ?_
  refine x_iconst 2 dL_law_2036 (by decide) ?_
  refine x_iadd dL_law_2037 ?_
  obtain ⟨v3, e4, h⟩ := Option.bind_eq_some_iff.mp h
  refine k_rS e4 dL_law_2038 ?_
  refine x_aload_n (Or.inr ⟨_, rfl⟩) dL_law_2039 rfl ?_
  refine x_iload dL_law_2040 rfl ?_
  refine x_iconst 3 dL_law_2042 (by decide) ?_
  refine x_iadd dL_law_2043 ?_
  obtain ⟨v5, e6, h⟩ := Option.bind_eq_some_iff.mp h
  refine k_rS e6 dL_law_2044 ?_
  refine x_aload_n (Or.inr ⟨_, rfl⟩) dL_law_2045 rfl ?_
  refine x_iload dL_law_2046 rfl ?_
  refine x_iconst 4 dL_law_2048 (by decide) ?_
  refine x_iadd dL_law_2049 ?_
  obtain ⟨v7, e8, h⟩ := Option.bind_eq_some_iff.mp h
  refine k_rS e8 dL_law_2050 ?_
  refine x_aload_n (Or.inr ⟨_, rfl⟩) dL_law_2051 rfl ?_
  refine x_iload dL_law_2052 rfl ?_
  refine x_iconst 5 dL_law_2054 (by decide) ?_
  refine x_iadd dL_law_2055 ?_
  obtain ⟨v9, e10, h⟩ := Option.bind_eq_some_iff.mp h
  refine k_rS e10 dL_law_2056 ?_
  refine x_aload_nr dL_law_2057 rfl ?_
  obtain ⟨r12, e13, h⟩ := Option.bind_eq_some_iff.mp h
  replace h := xI_ok h
  obtain ⟨v14, P11, rfl, h⟩ := h
  refine x_callSH (c_L_stones hl e13) dL_law_2058 ch_L_stones wl_L_232 ws_L_stones rfl (by omega) (by decide) rfl (Nat.le_of_ble_eq_true rfl) rfl (fun v9 P9 hq9 => ?_) (fun i9 P9 hq9 => by cases hq9)
  cases hq9
  refine x_istore dL_law_2061 (Nat.le_of_ble_eq_true rfl) ?_
  refine x_aload_nr dL_law_2063 rfl ?_
  refine x_aload_n (Or.inr ⟨_, rfl⟩) dL_law_2064 rfl ?_
  refine x_iload dL_law_2065 rfl ?_
  refine x_iconst 1 dL_law_2067 (by decide) ?_
  refine x_iadd dL_law_2068 ?_
  obtain ⟨v15, e16, h⟩ := Option.bind_eq_some_iff.mp h
  refine k_rS e16 dL_law_2069 ?_
  refine x_aload_n (Or.inr ⟨_, rfl⟩) dL_law_2070 rfl ?_
  refine x_iload dL_law_2071 rfl ?_
  refine x_iconst 2 dL_law_2073 (by decide) ?_
  refine x_iadd dL_law_2074 ?_
  obtain ⟨v17, e18, h⟩ := Option.bind_eq_some_iff.mp h
  refine k_rS e18 dL_law_2075 ?_
  refine x_aload_n (Or.inr ⟨_, rfl⟩) dL_law_2076 rfl ?_
  refine x_iload dL_law_2077 rfl ?_
  refine x_iconst 3 dL_law_2079 (by decide) ?_
  refine x_iadd dL_law_2080 ?_
  obtain ⟨v19, e20, h⟩ := Option.bind_eq_some_iff.mp h
  refine k_rS e20 dL_law_2081 ?_
  refine x_aload_n (Or.inr ⟨_, rfl⟩) dL_law_2082 rfl ?_
  refine x_iload dL_law_2083 rfl ?_
  refine x_iconst 4 dL_law_2085 (by decide) ?_
  refine x_iadd dL_law_2086 ?_
  obtain ⟨v21, e22, h⟩ := Option.bind_eq_some_iff.mp h
  refine k_rS e22 dL_law_2087 ?_
  refine x_aload_n (Or.inr ⟨_, rfl⟩) dL_law_2088 rfl ?_
  refine x_iload dL_law_2089 rfl ?_
  refine x_iconst 5 dL_law_2091 (by decide) ?_
  refine x_iadd dL_law_2092 ?_
  obtain ⟨v23, e24, h⟩ := Option.bind_eq_some_iff.mp h
  refine k_rS e24 dL_law_2093 ?_
  obtain ⟨_, e29, h⟩ := Option.bind_eq_some_iff.mp h
  obtain ⟨fse29, e29⟩ := kO_ok e29
  obtain ⟨r26, e27, h⟩ := Option.bind_eq_some_iff.mp h
  replace h := xI_ok h
  obtain ⟨v28, P25, rfl, h⟩ := h
  refine x_callV (c_X11_stones hl e27) dL_law_2094 cw_X11_stones wl_L_235 wi_X11_stones wse_X11_stones rfl e29 (by decide) rfl (by omega) (by decide) rfl (Nat.le_of_ble_eq_true rfl) rfl (fun v9 P9 hq9 => ?_) (fun i9 P9 hq9 => by cases hq9)
  cases hq9
  refine x_istore dL_law_2097 (Nat.le_of_ble_eq_true rfl) ?_
  refine x_aload_nr dL_law_2099 rfl ?_
  obtain ⟨_, e34, h⟩ := Option.bind_eq_some_iff.mp h
  obtain ⟨fse34, e34⟩ := kO_ok e34
  obtain ⟨r31, e32, h⟩ := Option.bind_eq_some_iff.mp h
  replace h := xI_ok h
  obtain ⟨v33, P30, rfl, h⟩ := h
  refine x_callV (c_X11_thrown hl e32) dL_law_2100 cw_X11_thrown wl_L_148 wi_X11_thrown wse_X11_thrown rfl e34 (by decide) rfl (by omega) (by decide) rfl (Nat.le_of_ble_eq_true rfl) rfl (fun v9 P9 hq9 => ?_) (fun i9 P9 hq9 => by cases hq9)
  cases hq9
  refine x_iload dL_law_2103 rfl ?_
  refine x_icmp_eq 2110 dL_law_2105 (by decide) (fun q39 => ?_) (fun q39 => ?_)
  · rw [if_pos q39] at h
    refine x_iload dL_law_2110 rfl ?_
    refine x_if_ne 2127 dL_law_2112 (by decide) (fun q38 => ?_) (fun q38 => ?_)
    · rw [if_pos q38] at h
      refine x_goto 2751 dL_law_2127 (by decide) ?_
      exact Wp.mask [true, true, true, true, true, false, false] (hrec 2751 _ _ _ h _ _ rfl _ hQ)
    · rw [if_neg (fun z9 => z9 q38)] at h
      refine x_aload_nr dL_law_2115 rfl ?_
      refine x_iconst 0 dL_law_2116 (by decide) ?_
      obtain ⟨v35, e36, h⟩ := Option.bind_eq_some_iff.mp h
      refine k_aJ e36 dL_law_2117 ?_
      refine x_iload dL_law_2118 rfl ?_
      refine x_i2l dL_law_2120 ?_
      refine x_lcmp dL_law_2121 ?_
      refine x_if_eq 2127 dL_law_2122 (by decide) (fun q37 => ?_) (fun q37 => ?_)
      · rw [if_pos q37] at h
        refine x_goto 2751 dL_law_2127 (by decide) ?_
        exact Wp.mask [true, true, true, true, true, false, false] (hrec 2751 _ _ _ h _ _ rfl _ hQ)
      · rw [if_neg q37] at h
        refine x_iconst 0 dL_law_2125 (by decide) ?_
        cases h
        exact x_iret .boolean rfl rfl dL_law_2126 hQ
  · rw [if_neg q39] at h
    refine x_iconst 0 dL_law_2108 (by decide) ?_
    cases h
    exact x_iret .boolean rfl rfl dL_law_2109 hQ
set_option maxHeartbeats 2000000 in
set_option maxRecDepth 20000 in
theorem t_L_law_2130 {G : xG} {l : Launch} (hl : l.stackTraces = false) {n : Nat} {rec : Nat → List Value → xH → xO} (hrec : ∀ pc env P z, rec pc env P = some z → ∀ L st, lay_L_law pc env = some (L, st) → ∀ Q : xR → xH → Prop, Q z.1 z.2 → Wp G l 45 mL_law pc L st P Q) {a1 a2 a3 a4} {P : xH} {z : xR × xH} (h : b_L_law_2130 n G.2.2.2.2.1 G.2.2.2.2.2 rec a1 a2 a3 a4 P = some z) {Q : xR → xH → Prop} (hQ : Q z.1 z.2) : Wp G l 45 mL_law 2130 [some (.retAddr 0), some (.ref a1), some (.ref a2), some (.ref a3), some (.int a4), none, none] [] P Q := by
  unfold b_L_law_2130 at h
  refine x_aload_nr dL_law_2130 rfl ?_
  refine x_aload_n (Or.inr ⟨_, rfl⟩) dL_law_2131 rfl ?_
  refine x_iload dL_law_2132 rfl ?_
  refine x_iconst 1 dL_law_2134 (by decide) ?_
  refine x_iadd dL_law_2135 ?_
  obtain ⟨v1, e2, h⟩ := Option.bind_eq_some_iff.mp h
  refine k_rS e2 dL_law_2136 ?_
  refine x_aload_n (Or.inr ⟨_, rfl⟩) dL_law_2137 rfl ?_
  refine x_iload dL_law_2138 rfl ?_
  refine x_iconst 2 dL_law_2140 (by decide) ?_
  refine x_iadd dL_law_2141 ?_
  obtain ⟨v3, e4, h⟩ := Option.bind_eq_some_iff.mp h
  refine k_rS e4 dL_law_2142 ?_
  refine x_aload_nr dL_law_2143 rfl ?_
  obtain ⟨r6, e7, h⟩ := Option.bind_eq_some_iff.mp h
  replace h := xI_ok h
  obtain ⟨v8, P5, rfl, h⟩ := h
  refine x_callSH (c_L_gang hl e7) dL_law_2144 ch_L_gang wl_L_236 ws_L_gang rfl (by omega) (by decide) rfl (Nat.le_of_ble_eq_true rfl) rfl (fun v9 P9 hq9 => ?_) (fun i9 P9 hq9 => by cases hq9)
  cases hq9
  refine x_istore dL_law_2147 (Nat.le_of_ble_eq_true rfl) ?_
  refine x_aload_nr dL_law_2149 rfl ?_
  refine x_aload_n (Or.inr ⟨_, rfl⟩) dL_law_2150 rfl ?_
  refine x_iload dL_law_2151 rfl ?_
  refine x_iconst 1 dL_law_2153 (by decide) ?_
  refine x_iadd dL_law_2154 ?_
  obtain ⟨v9, e10, h⟩ := Option.bind_eq_some_iff.mp h
  refine k_rS e10 dL_law_2155 ?_
  refine x_aload_n (Or.inr ⟨_, rfl⟩) dL_law_2156 rfl ?_
  refine x_iload dL_law_2157 rfl ?_
  refine x_iconst 2 dL_law_2159 (by decide) ?_
  refine x_iadd dL_law_2160 ?_
  obtain ⟨v11, e12, h⟩ := Option.bind_eq_some_iff.mp h
  refine k_rS e12 dL_law_2161 ?_
  obtain ⟨_, e17, h⟩ := Option.bind_eq_some_iff.mp h
  obtain ⟨fse17, e17⟩ := kO_ok e17
  obtain ⟨r14, e15, h⟩ := Option.bind_eq_some_iff.mp h
  replace h := xI_ok h
  obtain ⟨v16, P13, rfl, h⟩ := h
  refine x_callV (c_X11_gang hl e15) dL_law_2162 cw_X11_gang wl_L_238 wi_X11_gang wse_X11_gang rfl e17 (by decide) rfl (by omega) (by decide) rfl (Nat.le_of_ble_eq_true rfl) rfl (fun v9 P9 hq9 => ?_) (fun i9 P9 hq9 => by cases hq9)
  cases hq9
  refine x_istore dL_law_2165 (Nat.le_of_ble_eq_true rfl) ?_
  refine x_aload_nr dL_law_2167 rfl ?_
  obtain ⟨_, e22, h⟩ := Option.bind_eq_some_iff.mp h
  obtain ⟨fse22, e22⟩ := kO_ok e22
  obtain ⟨r19, e20, h⟩ := Option.bind_eq_some_iff.mp h
  replace h := xI_ok h
  obtain ⟨v21, P18, rfl, h⟩ := h
  refine x_callV (c_X11_thrown hl e20) dL_law_2168 cw_X11_thrown wl_L_148 wi_X11_thrown wse_X11_thrown rfl e22 (by decide) rfl (by omega) (by decide) rfl (Nat.le_of_ble_eq_true rfl) rfl (fun v9 P9 hq9 => ?_) (fun i9 P9 hq9 => by cases hq9)
  cases hq9
  refine x_iload dL_law_2171 rfl ?_
  refine x_icmp_eq 2178 dL_law_2173 (by decide) (fun q27 => ?_) (fun q27 => ?_)
  · rw [if_pos q27] at h
    refine x_iload dL_law_2178 rfl ?_
    refine x_if_ne 2195 dL_law_2180 (by decide) (fun q26 => ?_) (fun q26 => ?_)
    · rw [if_pos q26] at h
      refine x_goto 2751 dL_law_2195 (by decide) ?_
      exact Wp.mask [true, true, true, true, true, false, false] (hrec 2751 _ _ _ h _ _ rfl _ hQ)
    · rw [if_neg (fun z9 => z9 q26)] at h
      refine x_aload_nr dL_law_2183 rfl ?_
      refine x_iconst 0 dL_law_2184 (by decide) ?_
      obtain ⟨v23, e24, h⟩ := Option.bind_eq_some_iff.mp h
      refine k_aJ e24 dL_law_2185 ?_
      refine x_iload dL_law_2186 rfl ?_
      refine x_i2l dL_law_2188 ?_
      refine x_lcmp dL_law_2189 ?_
      refine x_if_eq 2195 dL_law_2190 (by decide) (fun q25 => ?_) (fun q25 => ?_)
      · rw [if_pos q25] at h
        refine x_goto 2751 dL_law_2195 (by decide) ?_
        exact Wp.mask [true, true, true, true, true, false, false] (hrec 2751 _ _ _ h _ _ rfl _ hQ)
      · rw [if_neg q25] at h
        refine x_iconst 0 dL_law_2193 (by decide) ?_
        cases h
        exact x_iret .boolean rfl rfl dL_law_2194 hQ
  · rw [if_neg q27] at h
    refine x_iconst 0 dL_law_2176 (by decide) ?_
    cases h
    exact x_iret .boolean rfl rfl dL_law_2177 hQ
set_option maxHeartbeats 2000000 in
set_option maxRecDepth 20000 in
theorem t_L_law_2198 {G : xG} {l : Launch} (hl : l.stackTraces = false) {n : Nat} {rec : Nat → List Value → xH → xO} (hrec : ∀ pc env P z, rec pc env P = some z → ∀ L st, lay_L_law pc env = some (L, st) → ∀ Q : xR → xH → Prop, Q z.1 z.2 → Wp G l 45 mL_law pc L st P Q) {a1 a2 a3 a4} {P : xH} {z : xR × xH} (h : b_L_law_2198 n G.2.2.2.2.1 G.2.2.2.2.2 rec a1 a2 a3 a4 P = some z) {Q : xR → xH → Prop} (hQ : Q z.1 z.2) : Wp G l 45 mL_law 2198 [some (.retAddr 0), some (.ref a1), some (.ref a2), some (.ref a3), some (.int a4), none, none] [] P Q := by
  unfold b_L_law_2198 at h
  refine x_aload_nr dL_law_2198 rfl ?_
  refine x_aload_n (Or.inr ⟨_, rfl⟩) dL_law_2199 rfl ?_
  refine x_iload dL_law_2200 rfl ?_
  refine x_iconst 1 dL_law_2202 (by decide) ?_
  refine x_iadd dL_law_2203 ?_
  obtain ⟨v1, e2, h⟩ := Option.bind_eq_some_iff.mp h
  refine k_rS e2 dL_law_2204 ?_
  refine x_aload_n (Or.inr ⟨_, rfl⟩) dL_law_2205 rfl ?_
  refine x_iload dL_law_2206 rfl ?_
  refine x_iconst 2 dL_law_2208 (by decide) ?_
  refine x_iadd dL_law_2209 ?_
  obtain ⟨v3, e4, h⟩ := Option.bind_eq_some_iff.mp h
  refine k_rS e4 dL_law_2210 ?_
  refine x_aload_nr dL_law_2211 rfl ?_
  obtain ⟨r6, e7, h⟩ := Option.bind_eq_some_iff.mp h
  replace h := xI_ok h
  obtain ⟨v8, P5, rfl, h⟩ := h
  refine x_callSH (c_L_saved hl e7) dL_law_2212 ch_L_saved wl_L_239 ws_L_saved rfl (by omega) (by decide) rfl (Nat.le_of_ble_eq_true rfl) rfl (fun v9 P9 hq9 => ?_) (fun i9 P9 hq9 => by cases hq9)
  cases hq9
  refine x_istore dL_law_2215 (Nat.le_of_ble_eq_true rfl) ?_
  refine x_aload_nr dL_law_2217 rfl ?_
  refine x_aload_n (Or.inr ⟨_, rfl⟩) dL_law_2218 rfl ?_
  refine x_iload dL_law_2219 rfl ?_
  refine x_iconst 1 dL_law_2221 (by decide) ?_
  refine x_iadd dL_law_2222 ?_
  obtain ⟨v9, e10, h⟩ := Option.bind_eq_some_iff.mp h
  refine k_rS e10 dL_law_2223 ?_
  refine x_aload_n (Or.inr ⟨_, rfl⟩) dL_law_2224 rfl ?_
  refine x_iload dL_law_2225 rfl ?_
  refine x_iconst 2 dL_law_2227 (by decide) ?_
  refine x_iadd dL_law_2228 ?_
  obtain ⟨v11, e12, h⟩ := Option.bind_eq_some_iff.mp h
  refine k_rS e12 dL_law_2229 ?_
  obtain ⟨_, e17, h⟩ := Option.bind_eq_some_iff.mp h
  obtain ⟨fse17, e17⟩ := kO_ok e17
  obtain ⟨r14, e15, h⟩ := Option.bind_eq_some_iff.mp h
  replace h := xI_ok h
  obtain ⟨v16, P13, rfl, h⟩ := h
  refine x_callV (c_X11_saved hl e15) dL_law_2230 cw_X11_saved wl_L_241 wi_X11_saved wse_X11_saved rfl e17 (by decide) rfl (by omega) (by decide) rfl (Nat.le_of_ble_eq_true rfl) rfl (fun v9 P9 hq9 => ?_) (fun i9 P9 hq9 => by cases hq9)
  cases hq9
  refine x_istore dL_law_2233 (Nat.le_of_ble_eq_true rfl) ?_
  refine x_aload_nr dL_law_2235 rfl ?_
  obtain ⟨_, e22, h⟩ := Option.bind_eq_some_iff.mp h
  obtain ⟨fse22, e22⟩ := kO_ok e22
  obtain ⟨r19, e20, h⟩ := Option.bind_eq_some_iff.mp h
  replace h := xI_ok h
  obtain ⟨v21, P18, rfl, h⟩ := h
  refine x_callV (c_X11_thrown hl e20) dL_law_2236 cw_X11_thrown wl_L_148 wi_X11_thrown wse_X11_thrown rfl e22 (by decide) rfl (by omega) (by decide) rfl (Nat.le_of_ble_eq_true rfl) rfl (fun v9 P9 hq9 => ?_) (fun i9 P9 hq9 => by cases hq9)
  cases hq9
  refine x_iload dL_law_2239 rfl ?_
  refine x_icmp_eq 2246 dL_law_2241 (by decide) (fun q27 => ?_) (fun q27 => ?_)
  · rw [if_pos q27] at h
    refine x_iload dL_law_2246 rfl ?_
    refine x_if_ne 2263 dL_law_2248 (by decide) (fun q26 => ?_) (fun q26 => ?_)
    · rw [if_pos q26] at h
      refine x_goto 2751 dL_law_2263 (by decide) ?_
      exact Wp.mask [true, true, true, true, true, false, false] (hrec 2751 _ _ _ h _ _ rfl _ hQ)
    · rw [if_neg (fun z9 => z9 q26)] at h
      refine x_aload_nr dL_law_2251 rfl ?_
      refine x_iconst 0 dL_law_2252 (by decide) ?_
      obtain ⟨v23, e24, h⟩ := Option.bind_eq_some_iff.mp h
      refine k_aJ e24 dL_law_2253 ?_
      refine x_iload dL_law_2254 rfl ?_
      refine x_i2l dL_law_2256 ?_
      refine x_lcmp dL_law_2257 ?_
      refine x_if_eq 2263 dL_law_2258 (by decide) (fun q25 => ?_) (fun q25 => ?_)
      · rw [if_pos q25] at h
        refine x_goto 2751 dL_law_2263 (by decide) ?_
        exact Wp.mask [true, true, true, true, true, false, false] (hrec 2751 _ _ _ h _ _ rfl _ hQ)
      · rw [if_neg q25] at h
        refine x_iconst 0 dL_law_2261 (by decide) ?_
        cases h
        exact x_iret .boolean rfl rfl dL_law_2262 hQ
  · rw [if_neg q27] at h
    refine x_iconst 0 dL_law_2244 (by decide) ?_
    cases h
    exact x_iret .boolean rfl rfl dL_law_2245 hQ
set_option maxHeartbeats 2000000 in
set_option maxRecDepth 20000 in
theorem t_L_law_2266 {G : xG} {l : Launch} (hl : l.stackTraces = false) {n : Nat} {rec : Nat → List Value → xH → xO} (hrec : ∀ pc env P z, rec pc env P = some z → ∀ L st, lay_L_law pc env = some (L, st) → ∀ Q : xR → xH → Prop, Q z.1 z.2 → Wp G l 45 mL_law pc L st P Q) {a1 a2 a3 a4} {P : xH} {z : xR × xH} (h : b_L_law_2266 n G.2.2.2.2.1 G.2.2.2.2.2 rec a1 a2 a3 a4 P = some z) {Q : xR → xH → Prop} (hQ : Q z.1 z.2) : Wp G l 45 mL_law 2266 [some (.retAddr 0), some (.ref a1), some (.ref a2), some (.ref a3), some (.int a4), none, none] [] P Q := by
  unfold b_L_law_2266 at h
  refine x_aload_nr dL_law_2266 rfl ?_
  refine x_aload_n (Or.inr ⟨_, rfl⟩) dL_law_2267 rfl ?_
  refine x_iload dL_law_2268 rfl ?_
  refine x_iconst 1 dL_law_2270 (by decide) ?_
  refine x_iadd dL_law_2271 ?_
  obtain ⟨v1, e2, h⟩ := Option.bind_eq_some_iff.mp h
  refine k_rS e2 dL_law_2272 ?_
  refine x_aload_nr dL_law_2273 rfl ?_
  obtain ⟨r4, e5, h⟩ := Option.bind_eq_some_iff.mp h
  replace h := xI_ok h
  obtain ⟨v6, P3, rfl, h⟩ := h
  refine x_callSH (c_L_send hl e5) dL_law_2274 ch_L_send wl_L_242 ws_L_send rfl (by omega) (by decide) rfl (Nat.le_of_ble_eq_true rfl) rfl (fun v9 P9 hq9 => ?_) (fun i9 P9 hq9 => by cases hq9)
  cases hq9
  refine x_istore dL_law_2277 (Nat.le_of_ble_eq_true rfl) ?_
  refine x_aload_nr dL_law_2279 rfl ?_
  refine x_aload_n (Or.inr ⟨_, rfl⟩) dL_law_2280 rfl ?_
  refine x_iload dL_law_2281 rfl ?_
  refine x_iconst 1 dL_law_2283 (by decide) ?_
  refine x_iadd dL_law_2284 ?_
  obtain ⟨v7, e8, h⟩ := Option.bind_eq_some_iff.mp h
  refine k_rS e8 dL_law_2285 ?_
  obtain ⟨_, e13, h⟩ := Option.bind_eq_some_iff.mp h
  obtain ⟨fse13, e13⟩ := kO_ok e13
  obtain ⟨r10, e11, h⟩ := Option.bind_eq_some_iff.mp h
  replace h := xI_ok h
  obtain ⟨v12, P9, rfl, h⟩ := h
  refine x_callV (c_X11_send hl e11) dL_law_2286 cw_X11_send wl_L_244 wi_X11_send wse_X11_send rfl e13 (by decide) rfl (by omega) (by decide) rfl (Nat.le_of_ble_eq_true rfl) rfl (fun v9 P9 hq9 => ?_) (fun i9 P9 hq9 => by cases hq9)
  cases hq9
  refine x_istore dL_law_2289 (Nat.le_of_ble_eq_true rfl) ?_
  refine x_aload_nr dL_law_2291 rfl ?_
  obtain ⟨_, e18, h⟩ := Option.bind_eq_some_iff.mp h
  obtain ⟨fse18, e18⟩ := kO_ok e18
  obtain ⟨r15, e16, h⟩ := Option.bind_eq_some_iff.mp h
  replace h := xI_ok h
  obtain ⟨v17, P14, rfl, h⟩ := h
  refine x_callV (c_X11_thrown hl e16) dL_law_2292 cw_X11_thrown wl_L_148 wi_X11_thrown wse_X11_thrown rfl e18 (by decide) rfl (by omega) (by decide) rfl (Nat.le_of_ble_eq_true rfl) rfl (fun v9 P9 hq9 => ?_) (fun i9 P9 hq9 => by cases hq9)
  cases hq9
  refine x_iload dL_law_2295 rfl ?_
  refine x_icmp_eq 2302 dL_law_2297 (by decide) (fun q23 => ?_) (fun q23 => ?_)
  · rw [if_pos q23] at h
    refine x_iload dL_law_2302 rfl ?_
    refine x_if_ne 2319 dL_law_2304 (by decide) (fun q22 => ?_) (fun q22 => ?_)
    · rw [if_pos q22] at h
      refine x_goto 2751 dL_law_2319 (by decide) ?_
      exact Wp.mask [true, true, true, true, true, false, false] (hrec 2751 _ _ _ h _ _ rfl _ hQ)
    · rw [if_neg (fun z9 => z9 q22)] at h
      refine x_aload_nr dL_law_2307 rfl ?_
      refine x_iconst 0 dL_law_2308 (by decide) ?_
      obtain ⟨v19, e20, h⟩ := Option.bind_eq_some_iff.mp h
      refine k_aJ e20 dL_law_2309 ?_
      refine x_iload dL_law_2310 rfl ?_
      refine x_i2l dL_law_2312 ?_
      refine x_lcmp dL_law_2313 ?_
      refine x_if_eq 2319 dL_law_2314 (by decide) (fun q21 => ?_) (fun q21 => ?_)
      · rw [if_pos q21] at h
        refine x_goto 2751 dL_law_2319 (by decide) ?_
        exact Wp.mask [true, true, true, true, true, false, false] (hrec 2751 _ _ _ h _ _ rfl _ hQ)
      · rw [if_neg q21] at h
        refine x_iconst 0 dL_law_2317 (by decide) ?_
        cases h
        exact x_iret .boolean rfl rfl dL_law_2318 hQ
  · rw [if_neg q23] at h
    refine x_iconst 0 dL_law_2300 (by decide) ?_
    cases h
    exact x_iret .boolean rfl rfl dL_law_2301 hQ
set_option maxHeartbeats 2000000 in
set_option maxRecDepth 20000 in
theorem t_L_law_2322 {G : xG} {l : Launch} (hl : l.stackTraces = false) {n : Nat} {rec : Nat → List Value → xH → xO} (hrec : ∀ pc env P z, rec pc env P = some z → ∀ L st, lay_L_law pc env = some (L, st) → ∀ Q : xR → xH → Prop, Q z.1 z.2 → Wp G l 45 mL_law pc L st P Q) {a1 a2 a3 a4} {P : xH} {z : xR × xH} (h : b_L_law_2322 n G.2.2.2.2.1 G.2.2.2.2.2 rec a1 a2 a3 a4 P = some z) {Q : xR → xH → Prop} (hQ : Q z.1 z.2) : Wp G l 45 mL_law 2322 [some (.retAddr 0), some (.ref a1), some (.ref a2), some (.ref a3), some (.int a4), none, none] [] P Q := by
  unfold b_L_law_2322 at h
  refine x_aload_nr dL_law_2322 rfl ?_
  refine x_aload_n (Or.inr ⟨_, rfl⟩) dL_law_2323 rfl ?_
  refine x_iload dL_law_2324 rfl ?_
  refine x_iconst 1 dL_law_2326 (by decide) ?_
  refine x_iadd dL_law_2327 ?_
  obtain ⟨v1, e2, h⟩ := Option.bind_eq_some_iff.mp h
  refine k_rS e2 dL_law_2328 ?_
  refine x_aload_n (Or.inr ⟨_, rfl⟩) dL_law_2329 rfl ?_
  refine x_iload dL_law_2330 rfl ?_
  refine x_iconst 2 dL_law_2332 (by decide) ?_
  refine x_iadd dL_law_2333 ?_
  obtain ⟨v3, e4, h⟩ := Option.bind_eq_some_iff.mp h
  refine k_rS e4 dL_law_2334 ?_
  refine x_if_eq 2342 dL_law_2335 (by decide) (fun q5 => ?_) (fun q5 => ?_)
  · rw [if_pos q5] at h
    refine x_iconst 0 dL_law_2342 (by decide) ?_
    exact Wp.mask [true, true, true, true, true, false, false] (hrec 2343 _ _ _ h _ _ rfl _ hQ)
  · rw [if_neg q5] at h
    refine x_iconst 1 dL_law_2338 (by decide) ?_
    refine x_goto 2343 dL_law_2339 (by decide) ?_
    exact Wp.mask [true, true, true, true, true, false, false] (hrec 2343 _ _ _ h _ _ rfl _ hQ)
set_option maxHeartbeats 2000000 in
set_option maxRecDepth 20000 in
theorem t_L_law_2343 {G : xG} {l : Launch} (hl : l.stackTraces = false) {n : Nat} {rec : Nat → List Value → xH → xO} (hrec : ∀ pc env P z, rec pc env P = some z → ∀ L st, lay_L_law pc env = some (L, st) → ∀ Q : xR → xH → Prop, Q z.1 z.2 → Wp G l 45 mL_law pc L st P Q) {a1 a2 a3 a4 s0 s1 s2} {P : xH} {z : xR × xH} (h : b_L_law_2343 n G.2.2.2.2.1 G.2.2.2.2.2 rec a1 a2 a3 a4 s0 s1 s2 P = some z) {Q : xR → xH → Prop} (hQ : Q z.1 z.2) : Wp G l 45 mL_law 2343 [some (.retAddr 0), some (.ref a1), some (.ref a2), some (.ref a3), some (.int a4), none, none] [.int s2, .int s1, .ref s0] P Q := by
  unfold b_L_law_2343 at h
  refine x_aload_nr dL_law_2343 rfl ?_
  obtain ⟨r2, e3, h⟩ := Option.bind_eq_some_iff.mp h
  replace h := xI_ok h
  obtain ⟨v4, P1, rfl, h⟩ := h
  refine x_callSH (c_L_hide hl e3) dL_law_2344 ch_L_hide wl_L_245 ws_L_hide rfl (by omega) (by decide) rfl (Nat.le_of_ble_eq_true rfl) rfl (fun v9 P9 hq9 => ?_) (fun i9 P9 hq9 => by cases hq9)
  cases hq9
  refine x_istore dL_law_2347 (Nat.le_of_ble_eq_true rfl) ?_
  refine x_aload_nr dL_law_2349 rfl ?_
  refine x_aload_n (Or.inr ⟨_, rfl⟩) dL_law_2350 rfl ?_
  refine x_iload dL_law_2351 rfl ?_
  refine x_iconst 1 dL_law_2353 (by decide) ?_
  refine x_iadd dL_law_2354 ?_
  obtain ⟨v5, e6, h⟩ := Option.bind_eq_some_iff.mp h
  refine k_rS e6 dL_law_2355 ?_
  refine x_aload_n (Or.inr ⟨_, rfl⟩) dL_law_2356 rfl ?_
  refine x_iload dL_law_2357 rfl ?_
  refine x_iconst 2 dL_law_2359 (by decide) ?_
  refine x_iadd dL_law_2360 ?_
  obtain ⟨v7, e8, h⟩ := Option.bind_eq_some_iff.mp h
  refine k_rS e8 dL_law_2361 ?_
  refine x_if_eq 2369 dL_law_2362 (by decide) (fun q9 => ?_) (fun q9 => ?_)
  · rw [if_pos q9] at h
    refine x_iconst 0 dL_law_2369 (by decide) ?_
    exact Wp.mask [true, true, true, true, true, true, false] (hrec 2370 _ _ _ h _ _ rfl _ hQ)
  · rw [if_neg q9] at h
    refine x_iconst 1 dL_law_2365 (by decide) ?_
    refine x_goto 2370 dL_law_2366 (by decide) ?_
    exact Wp.mask [true, true, true, true, true, true, false] (hrec 2370 _ _ _ h _ _ rfl _ hQ)
set_option maxHeartbeats 2000000 in
set_option maxRecDepth 20000 in
theorem t_L_law_2370 {G : xG} {l : Launch} (hl : l.stackTraces = false) {n : Nat} {rec : Nat → List Value → xH → xO} (hrec : ∀ pc env P z, rec pc env P = some z → ∀ L st, lay_L_law pc env = some (L, st) → ∀ Q : xR → xH → Prop, Q z.1 z.2 → Wp G l 45 mL_law pc L st P Q) {a1 a2 a3 a4 a5 s0 s1 s2} {P : xH} {z : xR × xH} (h : b_L_law_2370 n G.2.2.2.2.1 G.2.2.2.2.2 rec a1 a2 a3 a4 a5 s0 s1 s2 P = some z) {Q : xR → xH → Prop} (hQ : Q z.1 z.2) : Wp G l 45 mL_law 2370 [some (.retAddr 0), some (.ref a1), some (.ref a2), some (.ref a3), some (.int a4), some (.int a5), none] [.int s2, .int s1, .ref s0] P Q := by
  unfold b_L_law_2370 at h
  obtain ⟨_, e5, h⟩ := Option.bind_eq_some_iff.mp h
  obtain ⟨fse5, e5⟩ := kO_ok e5
  obtain ⟨r2, e3, h⟩ := Option.bind_eq_some_iff.mp h
  replace h := xI_ok h
  obtain ⟨v4, P1, rfl, h⟩ := h
  refine x_callV (c_X11_hide hl e3) dL_law_2370 cw_X11_hide wl_L_247 wi_X11_hide wse_X11_hide rfl e5 (by decide) rfl (by omega) (by decide) rfl (Nat.le_of_ble_eq_true rfl) rfl (fun v9 P9 hq9 => ?_) (fun i9 P9 hq9 => by cases hq9)
  cases hq9
  refine x_istore dL_law_2373 (Nat.le_of_ble_eq_true rfl) ?_
  refine x_aload_nr dL_law_2375 rfl ?_
  obtain ⟨_, e10, h⟩ := Option.bind_eq_some_iff.mp h
  obtain ⟨fse10, e10⟩ := kO_ok e10
  obtain ⟨r7, e8, h⟩ := Option.bind_eq_some_iff.mp h
  replace h := xI_ok h
  obtain ⟨v9, P6, rfl, h⟩ := h
  refine x_callV (c_X11_thrown hl e8) dL_law_2376 cw_X11_thrown wl_L_148 wi_X11_thrown wse_X11_thrown rfl e10 (by decide) rfl (by omega) (by decide) rfl (Nat.le_of_ble_eq_true rfl) rfl (fun v9 P9 hq9 => ?_) (fun i9 P9 hq9 => by cases hq9)
  cases hq9
  refine x_iload dL_law_2379 rfl ?_
  refine x_icmp_eq 2386 dL_law_2381 (by decide) (fun q15 => ?_) (fun q15 => ?_)
  · rw [if_pos q15] at h
    refine x_iload dL_law_2386 rfl ?_
    refine x_if_ne 2410 dL_law_2388 (by decide) (fun q14 => ?_) (fun q14 => ?_)
    · rw [if_pos q14] at h
      refine x_goto 2751 dL_law_2410 (by decide) ?_
      exact Wp.mask [true, true, true, true, true, false, false] (hrec 2751 _ _ _ h _ _ rfl _ hQ)
    · rw [if_neg (fun z9 => z9 q14)] at h
      refine x_aload_nr dL_law_2391 rfl ?_
      refine x_iconst 0 dL_law_2392 (by decide) ?_
      obtain ⟨v11, e12, h⟩ := Option.bind_eq_some_iff.mp h
      refine k_aJ e12 dL_law_2393 ?_
      refine x_iload dL_law_2394 rfl ?_
      refine x_if_eq 2403 dL_law_2396 (by decide) (fun q13 => ?_) (fun q13 => ?_)
      · rw [if_pos q13] at h
        refine x_lconst 0 dL_law_2403 (by decide) ?_
        exact Wp.mask [true, true, true, true, true, true, true] (hrec 2404 _ _ _ h _ _ rfl _ hQ)
      · rw [if_neg q13] at h
        refine x_lconst 1 dL_law_2399 (by decide) ?_
        refine x_goto 2404 dL_law_2400 (by decide) ?_
        exact Wp.mask [true, true, true, true, true, true, true] (hrec 2404 _ _ _ h _ _ rfl _ hQ)
  · rw [if_neg q15] at h
    refine x_iconst 0 dL_law_2384 (by decide) ?_
    cases h
    exact x_iret .boolean rfl rfl dL_law_2385 hQ
set_option maxHeartbeats 2000000 in
set_option maxRecDepth 20000 in
theorem t_L_law_2404 {G : xG} {l : Launch} (hl : l.stackTraces = false) {n : Nat} {rec : Nat → List Value → xH → xO} (hrec : ∀ pc env P z, rec pc env P = some z → ∀ L st, lay_L_law pc env = some (L, st) → ∀ Q : xR → xH → Prop, Q z.1 z.2 → Wp G l 45 mL_law pc L st P Q) {a1 a2 a3 a4 a5 a6 s0 s1} {P : xH} {z : xR × xH} (h : b_L_law_2404 n G.2.2.2.2.1 G.2.2.2.2.2 rec a1 a2 a3 a4 a5 a6 s0 s1 P = some z) {Q : xR → xH → Prop} (hQ : Q z.1 z.2) : Wp G l 45 mL_law 2404 [some (.retAddr 0), some (.ref a1), some (.ref a2), some (.ref a3), some (.int a4), some (.int a5), some (.int a6)] [.long s1, .long s0] P Q := by
  unfold b_L_law_2404 at h
  refine x_lcmp dL_law_2404 ?_
  refine x_if_eq 2410 dL_law_2405 (by decide) (fun q1 => ?_) (fun q1 => ?_)
  · rw [if_pos q1] at h
    refine x_goto 2751 dL_law_2410 (by decide) ?_
    exact Wp.mask [true, true, true, true, true, false, false] (hrec 2751 _ _ _ h _ _ rfl _ hQ)
  · rw [if_neg q1] at h
    refine x_iconst 0 dL_law_2408 (by decide) ?_
    cases h
    exact x_iret .boolean rfl rfl dL_law_2409 hQ
set_option maxHeartbeats 2000000 in
set_option maxRecDepth 20000 in
theorem t_L_law_2413 {G : xG} {l : Launch} (hl : l.stackTraces = false) {n : Nat} {rec : Nat → List Value → xH → xO} (hrec : ∀ pc env P z, rec pc env P = some z → ∀ L st, lay_L_law pc env = some (L, st) → ∀ Q : xR → xH → Prop, Q z.1 z.2 → Wp G l 45 mL_law pc L st P Q) {a1 a2 a3 a4} {P : xH} {z : xR × xH} (h : b_L_law_2413 n G.2.2.2.2.1 G.2.2.2.2.2 rec a1 a2 a3 a4 P = some z) {Q : xR → xH → Prop} (hQ : Q z.1 z.2) : Wp G l 45 mL_law 2413 [some (.retAddr 0), some (.ref a1), some (.ref a2), some (.ref a3), some (.int a4), none, none] [] P Q := by
  unfold b_L_law_2413 at h
  refine x_aload_nr dL_law_2413 rfl ?_
  refine x_aload_n (Or.inr ⟨_, rfl⟩) dL_law_2414 rfl ?_
  refine x_iload dL_law_2415 rfl ?_
  refine x_iconst 1 dL_law_2417 (by decide) ?_
  refine x_iadd dL_law_2418 ?_
  obtain ⟨v1, e2, h⟩ := Option.bind_eq_some_iff.mp h
  refine k_rS e2 dL_law_2419 ?_
  refine x_aload_n (Or.inr ⟨_, rfl⟩) dL_law_2420 rfl ?_
  refine x_iload dL_law_2421 rfl ?_
  refine x_iconst 2 dL_law_2423 (by decide) ?_
  refine x_iadd dL_law_2424 ?_
  obtain ⟨v3, e4, h⟩ := Option.bind_eq_some_iff.mp h
  refine k_rS e4 dL_law_2425 ?_
  refine x_if_eq 2433 dL_law_2426 (by decide) (fun q5 => ?_) (fun q5 => ?_)
  · rw [if_pos q5] at h
    refine x_iconst 0 dL_law_2433 (by decide) ?_
    exact Wp.mask [true, true, true, true, true, false, false] (hrec 2434 _ _ _ h _ _ rfl _ hQ)
  · rw [if_neg q5] at h
    refine x_iconst 1 dL_law_2429 (by decide) ?_
    refine x_goto 2434 dL_law_2430 (by decide) ?_
    exact Wp.mask [true, true, true, true, true, false, false] (hrec 2434 _ _ _ h _ _ rfl _ hQ)
set_option maxHeartbeats 2000000 in
set_option maxRecDepth 20000 in
theorem t_L_law_2434 {G : xG} {l : Launch} (hl : l.stackTraces = false) {n : Nat} {rec : Nat → List Value → xH → xO} (hrec : ∀ pc env P z, rec pc env P = some z → ∀ L st, lay_L_law pc env = some (L, st) → ∀ Q : xR → xH → Prop, Q z.1 z.2 → Wp G l 45 mL_law pc L st P Q) {a1 a2 a3 a4 s0 s1 s2} {P : xH} {z : xR × xH} (h : b_L_law_2434 n G.2.2.2.2.1 G.2.2.2.2.2 rec a1 a2 a3 a4 s0 s1 s2 P = some z) {Q : xR → xH → Prop} (hQ : Q z.1 z.2) : Wp G l 45 mL_law 2434 [some (.retAddr 0), some (.ref a1), some (.ref a2), some (.ref a3), some (.int a4), none, none] [.int s2, .int s1, .ref s0] P Q := by
  unfold b_L_law_2434 at h
  refine x_aload_nr dL_law_2434 rfl ?_
  obtain ⟨r2, e3, h⟩ := Option.bind_eq_some_iff.mp h
  replace h := xI_ok h
  obtain ⟨v4, P1, rfl, h⟩ := h
  refine x_callSH (c_L_ask hl e3) dL_law_2435 ch_L_ask wl_L_248 ws_L_ask rfl (by omega) (by decide) rfl (Nat.le_of_ble_eq_true rfl) rfl (fun v9 P9 hq9 => ?_) (fun i9 P9 hq9 => by cases hq9)
  cases hq9
  refine x_istore dL_law_2438 (Nat.le_of_ble_eq_true rfl) ?_
  refine x_aload_nr dL_law_2440 rfl ?_
  refine x_aload_n (Or.inr ⟨_, rfl⟩) dL_law_2441 rfl ?_
  refine x_iload dL_law_2442 rfl ?_
  refine x_iconst 1 dL_law_2444 (by decide) ?_
  refine x_iadd dL_law_2445 ?_
  obtain ⟨v5, e6, h⟩ := Option.bind_eq_some_iff.mp h
  refine k_rS e6 dL_law_2446 ?_
  refine x_aload_n (Or.inr ⟨_, rfl⟩) dL_law_2447 rfl ?_
  refine x_iload dL_law_2448 rfl ?_
  refine x_iconst 2 dL_law_2450 (by decide) ?_
  refine x_iadd dL_law_2451 ?_
  obtain ⟨v7, e8, h⟩ := Option.bind_eq_some_iff.mp h
  refine k_rS e8 dL_law_2452 ?_
  refine x_if_eq 2460 dL_law_2453 (by decide) (fun q9 => ?_) (fun q9 => ?_)
  · rw [if_pos q9] at h
    refine x_iconst 0 dL_law_2460 (by decide) ?_
    exact Wp.mask [true, true, true, true, true, true, false] (hrec 2461 _ _ _ h _ _ rfl _ hQ)
  · rw [if_neg q9] at h
    refine x_iconst 1 dL_law_2456 (by decide) ?_
    refine x_goto 2461 dL_law_2457 (by decide) ?_
    exact Wp.mask [true, true, true, true, true, true, false] (hrec 2461 _ _ _ h _ _ rfl _ hQ)
set_option maxHeartbeats 2000000 in
set_option maxRecDepth 20000 in
theorem t_L_law_2461 {G : xG} {l : Launch} (hl : l.stackTraces = false) {n : Nat} {rec : Nat → List Value → xH → xO} (hrec : ∀ pc env P z, rec pc env P = some z → ∀ L st, lay_L_law pc env = some (L, st) → ∀ Q : xR → xH → Prop, Q z.1 z.2 → Wp G l 45 mL_law pc L st P Q) {a1 a2 a3 a4 a5 s0 s1 s2} {P : xH} {z : xR × xH} (h : b_L_law_2461 n G.2.2.2.2.1 G.2.2.2.2.2 rec a1 a2 a3 a4 a5 s0 s1 s2 P = some z) {Q : xR → xH → Prop} (hQ : Q z.1 z.2) : Wp G l 45 mL_law 2461 [some (.retAddr 0), some (.ref a1), some (.ref a2), some (.ref a3), some (.int a4), some (.int a5), none] [.int s2, .int s1, .ref s0] P Q := by
  unfold b_L_law_2461 at h
  obtain ⟨_, e5, h⟩ := Option.bind_eq_some_iff.mp h
  obtain ⟨fse5, e5⟩ := kO_ok e5
  obtain ⟨r2, e3, h⟩ := Option.bind_eq_some_iff.mp h
  replace h := xI_ok h
  obtain ⟨v4, P1, rfl, h⟩ := h
  refine x_callV (c_X11_ask hl e3) dL_law_2461 cw_X11_ask wl_L_250 wi_X11_ask wse_X11_ask rfl e5 (by decide) rfl (by omega) (by decide) rfl (Nat.le_of_ble_eq_true rfl) rfl (fun v9 P9 hq9 => ?_) (fun i9 P9 hq9 => by cases hq9)
  cases hq9
  refine x_istore dL_law_2464 (Nat.le_of_ble_eq_true rfl) ?_
  refine x_aload_nr dL_law_2466 rfl ?_
  obtain ⟨_, e10, h⟩ := Option.bind_eq_some_iff.mp h
  obtain ⟨fse10, e10⟩ := kO_ok e10
  obtain ⟨r7, e8, h⟩ := Option.bind_eq_some_iff.mp h
  replace h := xI_ok h
  obtain ⟨v9, P6, rfl, h⟩ := h
  refine x_callV (c_X11_thrown hl e8) dL_law_2467 cw_X11_thrown wl_L_148 wi_X11_thrown wse_X11_thrown rfl e10 (by decide) rfl (by omega) (by decide) rfl (Nat.le_of_ble_eq_true rfl) rfl (fun v9 P9 hq9 => ?_) (fun i9 P9 hq9 => by cases hq9)
  cases hq9
  refine x_iload dL_law_2470 rfl ?_
  refine x_icmp_eq 2477 dL_law_2472 (by decide) (fun q15 => ?_) (fun q15 => ?_)
  · rw [if_pos q15] at h
    refine x_iload dL_law_2477 rfl ?_
    refine x_if_ne 2494 dL_law_2479 (by decide) (fun q14 => ?_) (fun q14 => ?_)
    · rw [if_pos q14] at h
      refine x_goto 2751 dL_law_2494 (by decide) ?_
      exact Wp.mask [true, true, true, true, true, false, false] (hrec 2751 _ _ _ h _ _ rfl _ hQ)
    · rw [if_neg (fun z9 => z9 q14)] at h
      refine x_aload_nr dL_law_2482 rfl ?_
      refine x_iconst 0 dL_law_2483 (by decide) ?_
      obtain ⟨v11, e12, h⟩ := Option.bind_eq_some_iff.mp h
      refine k_aJ e12 dL_law_2484 ?_
      refine x_iload dL_law_2485 rfl ?_
      refine x_i2l dL_law_2487 ?_
      refine x_lcmp dL_law_2488 ?_
      refine x_if_eq 2494 dL_law_2489 (by decide) (fun q13 => ?_) (fun q13 => ?_)
      · rw [if_pos q13] at h
        refine x_goto 2751 dL_law_2494 (by decide) ?_
        exact Wp.mask [true, true, true, true, true, false, false] (hrec 2751 _ _ _ h _ _ rfl _ hQ)
      · rw [if_neg q13] at h
        refine x_iconst 0 dL_law_2492 (by decide) ?_
        cases h
        exact x_iret .boolean rfl rfl dL_law_2493 hQ
  · rw [if_neg q15] at h
    refine x_iconst 0 dL_law_2475 (by decide) ?_
    cases h
    exact x_iret .boolean rfl rfl dL_law_2476 hQ
set_option maxHeartbeats 2000000 in
set_option maxRecDepth 20000 in
theorem t_L_law_2497 {G : xG} {l : Launch} (hl : l.stackTraces = false) {n : Nat} {rec : Nat → List Value → xH → xO} (hrec : ∀ pc env P z, rec pc env P = some z → ∀ L st, lay_L_law pc env = some (L, st) → ∀ Q : xR → xH → Prop, Q z.1 z.2 → Wp G l 45 mL_law pc L st P Q) {a1 a2 a3 a4} {P : xH} {z : xR × xH} (h : b_L_law_2497 n G.2.2.2.2.1 G.2.2.2.2.2 rec a1 a2 a3 a4 P = some z) {Q : xR → xH → Prop} (hQ : Q z.1 z.2) : Wp G l 45 mL_law 2497 [some (.retAddr 0), some (.ref a1), some (.ref a2), some (.ref a3), some (.int a4), none, none] [] P Q := by
  unfold b_L_law_2497 at h
  refine x_aload_nr dL_law_2497 rfl ?_
  refine x_aload_n (Or.inr ⟨_, rfl⟩) dL_law_2498 rfl ?_
  refine x_iload dL_law_2499 rfl ?_
  refine x_iconst 1 dL_law_2501 (by decide) ?_
  refine x_iadd dL_law_2502 ?_
  obtain ⟨v1, e2, h⟩ := Option.bind_eq_some_iff.mp h
  refine k_rS e2 dL_law_2503 ?_
  refine x_aload_n (Or.inr ⟨_, rfl⟩) dL_law_2504 rfl ?_
  refine x_iload dL_law_2505 rfl ?_
  refine x_iconst 2 dL_law_2507 (by decide) ?_
  refine x_iadd dL_law_2508 ?_
  obtain ⟨v3, e4, h⟩ := Option.bind_eq_some_iff.mp h
  refine k_rS e4 dL_law_2509 ?_
  refine x_aload_nr dL_law_2510 rfl ?_
  obtain ⟨r6, e7, h⟩ := Option.bind_eq_some_iff.mp h
  replace h := xI_ok h
  obtain ⟨v8, P5, rfl, h⟩ := h
  refine x_callSH (c_L_far hl e7) dL_law_2511 ch_L_far wl_L_251 ws_L_far rfl (by omega) (by decide) rfl (Nat.le_of_ble_eq_true rfl) rfl (fun v9 P9 hq9 => ?_) (fun i9 P9 hq9 => by cases hq9)
  cases hq9
  refine x_istore dL_law_2514 (Nat.le_of_ble_eq_true rfl) ?_
  refine x_aload_nr dL_law_2516 rfl ?_
  refine x_aload_n (Or.inr ⟨_, rfl⟩) dL_law_2517 rfl ?_
  refine x_iload dL_law_2518 rfl ?_
  refine x_iconst 1 dL_law_2520 (by decide) ?_
  refine x_iadd dL_law_2521 ?_
  obtain ⟨v9, e10, h⟩ := Option.bind_eq_some_iff.mp h
  refine k_rS e10 dL_law_2522 ?_
  refine x_aload_n (Or.inr ⟨_, rfl⟩) dL_law_2523 rfl ?_
  refine x_iload dL_law_2524 rfl ?_
  refine x_iconst 2 dL_law_2526 (by decide) ?_
  refine x_iadd dL_law_2527 ?_
  obtain ⟨v11, e12, h⟩ := Option.bind_eq_some_iff.mp h
  refine k_rS e12 dL_law_2528 ?_
  obtain ⟨_, e17, h⟩ := Option.bind_eq_some_iff.mp h
  obtain ⟨fse17, e17⟩ := kO_ok e17
  obtain ⟨r14, e15, h⟩ := Option.bind_eq_some_iff.mp h
  replace h := xI_ok h
  obtain ⟨v16, P13, rfl, h⟩ := h
  refine x_callV (c_X11_far hl e15) dL_law_2529 cw_X11_far wl_L_253 wi_X11_far wse_X11_far rfl e17 (by decide) rfl (by omega) (by decide) rfl (Nat.le_of_ble_eq_true rfl) rfl (fun v9 P9 hq9 => ?_) (fun i9 P9 hq9 => by cases hq9)
  cases hq9
  refine x_istore dL_law_2532 (Nat.le_of_ble_eq_true rfl) ?_
  refine x_aload_nr dL_law_2534 rfl ?_
  obtain ⟨_, e22, h⟩ := Option.bind_eq_some_iff.mp h
  obtain ⟨fse22, e22⟩ := kO_ok e22
  obtain ⟨r19, e20, h⟩ := Option.bind_eq_some_iff.mp h
  replace h := xI_ok h
  obtain ⟨v21, P18, rfl, h⟩ := h
  refine x_callV (c_X11_thrown hl e20) dL_law_2535 cw_X11_thrown wl_L_148 wi_X11_thrown wse_X11_thrown rfl e22 (by decide) rfl (by omega) (by decide) rfl (Nat.le_of_ble_eq_true rfl) rfl (fun v9 P9 hq9 => ?_) (fun i9 P9 hq9 => by cases hq9)
  cases hq9
  refine x_iload dL_law_2538 rfl ?_
  refine x_icmp_eq 2545 dL_law_2540 (by decide) (fun q27 => ?_) (fun q27 => ?_)
  · rw [if_pos q27] at h
    refine x_iload dL_law_2545 rfl ?_
    refine x_if_ne 2562 dL_law_2547 (by decide) (fun q26 => ?_) (fun q26 => ?_)
    · rw [if_pos q26] at h
      refine x_goto 2751 dL_law_2562 (by decide) ?_
      exact Wp.mask [true, true, true, true, true, false, false] (hrec 2751 _ _ _ h _ _ rfl _ hQ)
    · rw [if_neg (fun z9 => z9 q26)] at h
      refine x_aload_nr dL_law_2550 rfl ?_
      refine x_iconst 0 dL_law_2551 (by decide) ?_
      obtain ⟨v23, e24, h⟩ := Option.bind_eq_some_iff.mp h
      refine k_aJ e24 dL_law_2552 ?_
      refine x_iload dL_law_2553 rfl ?_
      refine x_i2l dL_law_2555 ?_
      refine x_lcmp dL_law_2556 ?_
      refine x_if_eq 2562 dL_law_2557 (by decide) (fun q25 => ?_) (fun q25 => ?_)
      · rw [if_pos q25] at h
        refine x_goto 2751 dL_law_2562 (by decide) ?_
        exact Wp.mask [true, true, true, true, true, false, false] (hrec 2751 _ _ _ h _ _ rfl _ hQ)
      · rw [if_neg q25] at h
        refine x_iconst 0 dL_law_2560 (by decide) ?_
        cases h
        exact x_iret .boolean rfl rfl dL_law_2561 hQ
  · rw [if_neg q27] at h
    refine x_iconst 0 dL_law_2543 (by decide) ?_
    cases h
    exact x_iret .boolean rfl rfl dL_law_2544 hQ
set_option maxHeartbeats 2000000 in
set_option maxRecDepth 20000 in
theorem t_L_law_2565 {G : xG} {l : Launch} (hl : l.stackTraces = false) {n : Nat} {rec : Nat → List Value → xH → xO} (hrec : ∀ pc env P z, rec pc env P = some z → ∀ L st, lay_L_law pc env = some (L, st) → ∀ Q : xR → xH → Prop, Q z.1 z.2 → Wp G l 45 mL_law pc L st P Q) {a1 a2 a3 a4} {P : xH} {z : xR × xH} (h : b_L_law_2565 n G.2.2.2.2.1 G.2.2.2.2.2 rec a1 a2 a3 a4 P = some z) {Q : xR → xH → Prop} (hQ : Q z.1 z.2) : Wp G l 45 mL_law 2565 [some (.retAddr 0), some (.ref a1), some (.ref a2), some (.ref a3), some (.int a4), none, none] [] P Q := by
  unfold b_L_law_2565 at h
  refine x_aload_nr dL_law_2565 rfl ?_
  refine x_aload_n (Or.inr ⟨_, rfl⟩) dL_law_2566 rfl ?_
  refine x_iload dL_law_2567 rfl ?_
  refine x_iconst 1 dL_law_2569 (by decide) ?_
  refine x_iadd dL_law_2570 ?_
  obtain ⟨v1, e2, h⟩ := Option.bind_eq_some_iff.mp h
  refine k_rS e2 dL_law_2571 ?_
  refine x_aload_nr dL_law_2572 rfl ?_
  obtain ⟨r4, e5, h⟩ := Option.bind_eq_some_iff.mp h
  replace h := xI_ok h
  obtain ⟨v6, P3, rfl, h⟩ := h
  refine x_callSH (c_L_would hl e5) dL_law_2573 ch_L_would wl_L_254 ws_L_would rfl (by omega) (by decide) rfl (Nat.le_of_ble_eq_true rfl) rfl (fun v9 P9 hq9 => ?_) (fun i9 P9 hq9 => by cases hq9)
  cases hq9
  refine x_istore dL_law_2576 (Nat.le_of_ble_eq_true rfl) ?_
  refine x_aload_nr dL_law_2578 rfl ?_
  refine x_aload_n (Or.inr ⟨_, rfl⟩) dL_law_2579 rfl ?_
  refine x_iload dL_law_2580 rfl ?_
  refine x_iconst 1 dL_law_2582 (by decide) ?_
  refine x_iadd dL_law_2583 ?_
  obtain ⟨v7, e8, h⟩ := Option.bind_eq_some_iff.mp h
  refine k_rS e8 dL_law_2584 ?_
  obtain ⟨_, e13, h⟩ := Option.bind_eq_some_iff.mp h
  obtain ⟨fse13, e13⟩ := kO_ok e13
  obtain ⟨r10, e11, h⟩ := Option.bind_eq_some_iff.mp h
  replace h := xI_ok h
  obtain ⟨v12, P9, rfl, h⟩ := h
  refine x_callV (c_X11_would hl e11) dL_law_2585 cw_X11_would wl_L_256 wi_X11_would wse_X11_would rfl e13 (by decide) rfl (by omega) (by decide) rfl (Nat.le_of_ble_eq_true rfl) rfl (fun v9 P9 hq9 => ?_) (fun i9 P9 hq9 => by cases hq9)
  cases hq9
  refine x_istore dL_law_2588 (Nat.le_of_ble_eq_true rfl) ?_
  refine x_aload_nr dL_law_2590 rfl ?_
  obtain ⟨_, e18, h⟩ := Option.bind_eq_some_iff.mp h
  obtain ⟨fse18, e18⟩ := kO_ok e18
  obtain ⟨r15, e16, h⟩ := Option.bind_eq_some_iff.mp h
  replace h := xI_ok h
  obtain ⟨v17, P14, rfl, h⟩ := h
  refine x_callV (c_X11_thrown hl e16) dL_law_2591 cw_X11_thrown wl_L_148 wi_X11_thrown wse_X11_thrown rfl e18 (by decide) rfl (by omega) (by decide) rfl (Nat.le_of_ble_eq_true rfl) rfl (fun v9 P9 hq9 => ?_) (fun i9 P9 hq9 => by cases hq9)
  cases hq9
  refine x_iload dL_law_2594 rfl ?_
  refine x_icmp_eq 2601 dL_law_2596 (by decide) (fun q23 => ?_) (fun q23 => ?_)
  · rw [if_pos q23] at h
    refine x_iload dL_law_2601 rfl ?_
    refine x_if_ne 2618 dL_law_2603 (by decide) (fun q22 => ?_) (fun q22 => ?_)
    · rw [if_pos q22] at h
      refine x_goto 2751 dL_law_2618 (by decide) ?_
      exact Wp.mask [true, true, true, true, true, false, false] (hrec 2751 _ _ _ h _ _ rfl _ hQ)
    · rw [if_neg (fun z9 => z9 q22)] at h
      refine x_aload_nr dL_law_2606 rfl ?_
      refine x_iconst 0 dL_law_2607 (by decide) ?_
      obtain ⟨v19, e20, h⟩ := Option.bind_eq_some_iff.mp h
      refine k_aJ e20 dL_law_2608 ?_
      refine x_iload dL_law_2609 rfl ?_
      refine x_i2l dL_law_2611 ?_
      refine x_lcmp dL_law_2612 ?_
      refine x_if_eq 2618 dL_law_2613 (by decide) (fun q21 => ?_) (fun q21 => ?_)
      · rw [if_pos q21] at h
        refine x_goto 2751 dL_law_2618 (by decide) ?_
        exact Wp.mask [true, true, true, true, true, false, false] (hrec 2751 _ _ _ h _ _ rfl _ hQ)
      · rw [if_neg q21] at h
        refine x_iconst 0 dL_law_2616 (by decide) ?_
        cases h
        exact x_iret .boolean rfl rfl dL_law_2617 hQ
  · rw [if_neg q23] at h
    refine x_iconst 0 dL_law_2599 (by decide) ?_
    cases h
    exact x_iret .boolean rfl rfl dL_law_2600 hQ
set_option maxHeartbeats 2000000 in
set_option maxRecDepth 20000 in
theorem t_L_law_2621 {G : xG} {l : Launch} (hl : l.stackTraces = false) {n : Nat} {rec : Nat → List Value → xH → xO} (hrec : ∀ pc env P z, rec pc env P = some z → ∀ L st, lay_L_law pc env = some (L, st) → ∀ Q : xR → xH → Prop, Q z.1 z.2 → Wp G l 45 mL_law pc L st P Q) {a1 a2 a3 a4} {P : xH} {z : xR × xH} (h : b_L_law_2621 n G.2.2.2.2.1 G.2.2.2.2.2 rec a1 a2 a3 a4 P = some z) {Q : xR → xH → Prop} (hQ : Q z.1 z.2) : Wp G l 45 mL_law 2621 [some (.retAddr 0), some (.ref a1), some (.ref a2), some (.ref a3), some (.int a4), none, none] [] P Q := by
  unfold b_L_law_2621 at h
  refine x_aload_nr dL_law_2621 rfl ?_
  refine x_aload_n (Or.inr ⟨_, rfl⟩) dL_law_2622 rfl ?_
  refine x_iload dL_law_2623 rfl ?_
  refine x_iconst 1 dL_law_2625 (by decide) ?_
  refine x_iadd dL_law_2626 ?_
  obtain ⟨v1, e2, h⟩ := Option.bind_eq_some_iff.mp h
  refine k_rS e2 dL_law_2627 ?_
  refine x_aload_n (Or.inr ⟨_, rfl⟩) dL_law_2628 rfl ?_
  refine x_iload dL_law_2629 rfl ?_
  refine x_iconst 2 dL_law_2631 (by decide) ?_
  refine x_iadd dL_law_2632 ?_
  obtain ⟨v3, e4, h⟩ := Option.bind_eq_some_iff.mp h
  refine k_rS e4 dL_law_2633 ?_
  refine x_aload_nr dL_law_2634 rfl ?_
  obtain ⟨r6, e7, h⟩ := Option.bind_eq_some_iff.mp h
  replace h := xI_ok h
  obtain ⟨v8, P5, rfl, h⟩ := h
  refine x_callSH (c_L_tear hl e7) dL_law_2635 ch_L_tear wl_L_257 ws_L_tear rfl (by omega) (by decide) rfl (Nat.le_of_ble_eq_true rfl) rfl (fun v9 P9 hq9 => ?_) (fun i9 P9 hq9 => by cases hq9)
  cases hq9
  refine x_istore dL_law_2638 (Nat.le_of_ble_eq_true rfl) ?_
  refine x_aload_nr dL_law_2640 rfl ?_
  refine x_aload_n (Or.inr ⟨_, rfl⟩) dL_law_2641 rfl ?_
  refine x_iload dL_law_2642 rfl ?_
  refine x_iconst 1 dL_law_2644 (by decide) ?_
  refine x_iadd dL_law_2645 ?_
  obtain ⟨v9, e10, h⟩ := Option.bind_eq_some_iff.mp h
  refine k_rS e10 dL_law_2646 ?_
  refine x_aload_n (Or.inr ⟨_, rfl⟩) dL_law_2647 rfl ?_
  refine x_iload dL_law_2648 rfl ?_
  refine x_iconst 2 dL_law_2650 (by decide) ?_
  refine x_iadd dL_law_2651 ?_
  obtain ⟨v11, e12, h⟩ := Option.bind_eq_some_iff.mp h
  refine k_rS e12 dL_law_2652 ?_
  obtain ⟨_, e17, h⟩ := Option.bind_eq_some_iff.mp h
  obtain ⟨fse17, e17⟩ := kO_ok e17
  obtain ⟨r14, e15, h⟩ := Option.bind_eq_some_iff.mp h
  replace h := xI_ok h
  obtain ⟨v16, P13, rfl, h⟩ := h
  refine x_callV (c_X11_tear hl e15) dL_law_2653 cw_X11_tear wl_L_259 wi_X11_tear wse_X11_tear rfl e17 (by decide) rfl (by omega) (by decide) rfl (Nat.le_of_ble_eq_true rfl) rfl (fun v9 P9 hq9 => ?_) (fun i9 P9 hq9 => by cases hq9)
  cases hq9
  refine x_istore dL_law_2656 (Nat.le_of_ble_eq_true rfl) ?_
  refine x_aload_nr dL_law_2658 rfl ?_
  obtain ⟨_, e22, h⟩ := Option.bind_eq_some_iff.mp h
  obtain ⟨fse22, e22⟩ := kO_ok e22
  obtain ⟨r19, e20, h⟩ := Option.bind_eq_some_iff.mp h
  replace h := xI_ok h
  obtain ⟨v21, P18, rfl, h⟩ := h
  refine x_callV (c_X11_thrown hl e20) dL_law_2659 cw_X11_thrown wl_L_148 wi_X11_thrown wse_X11_thrown rfl e22 (by decide) rfl (by omega) (by decide) rfl (Nat.le_of_ble_eq_true rfl) rfl (fun v9 P9 hq9 => ?_) (fun i9 P9 hq9 => by cases hq9)
  cases hq9
  refine x_iload dL_law_2662 rfl ?_
  refine x_icmp_eq 2669 dL_law_2664 (by decide) (fun q27 => ?_) (fun q27 => ?_)
  · rw [if_pos q27] at h
    refine x_iload dL_law_2669 rfl ?_
    refine x_if_ne 2686 dL_law_2671 (by decide) (fun q26 => ?_) (fun q26 => ?_)
    · rw [if_pos q26] at h
      refine x_goto 2751 dL_law_2686 (by decide) ?_
      exact Wp.mask [true, true, true, true, true, false, false] (hrec 2751 _ _ _ h _ _ rfl _ hQ)
    · rw [if_neg (fun z9 => z9 q26)] at h
      refine x_aload_nr dL_law_2674 rfl ?_
      refine x_iconst 0 dL_law_2675 (by decide) ?_
      obtain ⟨v23, e24, h⟩ := Option.bind_eq_some_iff.mp h
      refine k_aJ e24 dL_law_2676 ?_
      refine x_iload dL_law_2677 rfl ?_
      refine x_i2l dL_law_2679 ?_
      refine x_lcmp dL_law_2680 ?_
      refine x_if_eq 2686 dL_law_2681 (by decide) (fun q25 => ?_) (fun q25 => ?_)
      · rw [if_pos q25] at h
        refine x_goto 2751 dL_law_2686 (by decide) ?_
        exact Wp.mask [true, true, true, true, true, false, false] (hrec 2751 _ _ _ h _ _ rfl _ hQ)
      · rw [if_neg q25] at h
        refine x_iconst 0 dL_law_2684 (by decide) ?_
        cases h
        exact x_iret .boolean rfl rfl dL_law_2685 hQ
  · rw [if_neg q27] at h
    refine x_iconst 0 dL_law_2667 (by decide) ?_
    cases h
    exact x_iret .boolean rfl rfl dL_law_2668 hQ
set_option maxHeartbeats 2000000 in
set_option maxRecDepth 20000 in
theorem t_L_law_2689 {G : xG} {l : Launch} (hl : l.stackTraces = false) {n : Nat} {rec : Nat → List Value → xH → xO} (hrec : ∀ pc env P z, rec pc env P = some z → ∀ L st, lay_L_law pc env = some (L, st) → ∀ Q : xR → xH → Prop, Q z.1 z.2 → Wp G l 45 mL_law pc L st P Q) {a1 a2 a3 a4} {P : xH} {z : xR × xH} (h : b_L_law_2689 n G.2.2.2.2.1 G.2.2.2.2.2 rec a1 a2 a3 a4 P = some z) {Q : xR → xH → Prop} (hQ : Q z.1 z.2) : Wp G l 45 mL_law 2689 [some (.retAddr 0), some (.ref a1), some (.ref a2), some (.ref a3), some (.int a4), none, none] [] P Q := by
  unfold b_L_law_2689 at h
  refine x_aload_nr dL_law_2689 rfl ?_
  obtain ⟨_, e5, h⟩ := Option.bind_eq_some_iff.mp h
  obtain ⟨fse5, e5⟩ := kO_ok e5
  obtain ⟨r2, e3, h⟩ := Option.bind_eq_some_iff.mp h
  replace h := xI_ok h
  obtain ⟨v4, P1, rfl, h⟩ := h
  refine x_callV (c_X10_check hl e3) dL_law_2690 cw_X10_check wl_L_260 wi_X10_check wse_X10_check rfl e5 (by decide) rfl (by omega) (by decide) rfl (Nat.le_of_ble_eq_true rfl) rfl (fun v9 P9 hq9 => ?_) (fun i9 P9 hq9 => by cases hq9)
  cases hq9
  refine x_aload_nr dL_law_2693 rfl ?_
  obtain ⟨_, e10, h⟩ := Option.bind_eq_some_iff.mp h
  obtain ⟨fse10, e10⟩ := kO_ok e10
  obtain ⟨r7, e8, h⟩ := Option.bind_eq_some_iff.mp h
  replace h := xI_ok h
  obtain ⟨v9, P6, rfl, h⟩ := h
  refine x_callV (c_X11_check hl e8) dL_law_2694 cw_X11_check wl_L_263 wi_X11_check wse_X11_check rfl e10 (by decide) rfl (by omega) (by decide) rfl (Nat.le_of_ble_eq_true rfl) rfl (fun v9 P9 hq9 => ?_) (fun i9 P9 hq9 => by cases hq9)
  cases hq9
  refine x_icmp_eq 2751 dL_law_2697 (by decide) (fun q11 => ?_) (fun q11 => ?_)
  · rw [if_pos q11] at h
    exact Wp.mask [true, true, true, true, true, false, false] (hrec 2751 _ _ _ h _ _ rfl _ hQ)
  · rw [if_neg q11] at h
    refine x_iconst 0 dL_law_2700 (by decide) ?_
    cases h
    exact x_iret .boolean rfl rfl dL_law_2701 hQ
set_option maxHeartbeats 2000000 in
set_option maxRecDepth 20000 in
theorem t_L_law_2702 {G : xG} {l : Launch} (hl : l.stackTraces = false) {n : Nat} {rec : Nat → List Value → xH → xO} (hrec : ∀ pc env P z, rec pc env P = some z → ∀ L st, lay_L_law pc env = some (L, st) → ∀ Q : xR → xH → Prop, Q z.1 z.2 → Wp G l 45 mL_law pc L st P Q) {a1 a2 a3 a4} {P : xH} {z : xR × xH} (h : b_L_law_2702 n G.2.2.2.2.1 G.2.2.2.2.2 rec a1 a2 a3 a4 P = some z) {Q : xR → xH → Prop} (hQ : Q z.1 z.2) : Wp G l 45 mL_law 2702 [some (.retAddr 0), some (.ref a1), some (.ref a2), some (.ref a3), some (.int a4), none, none] [] P Q := by
  unfold b_L_law_2702 at h
  refine x_aload_nr dL_law_2702 rfl ?_
  obtain ⟨_, e4, h⟩ := Option.bind_eq_some_iff.mp h
  obtain ⟨fse4, e4⟩ := kO_ok e4
  obtain ⟨r2, e3, h⟩ := Option.bind_eq_some_iff.mp h
  replace h := xU_ok h
  obtain ⟨P1, rfl, h⟩ := h
  refine x_callV (c_X10_image hl e3) dL_law_2703 cw_X10_image wl_L_264 wi_X10_image wse_X10_image rfl e4 (by decide) rfl (by omega) (by decide) rfl (Nat.le_of_ble_eq_true rfl) rfl (fun v9 P9 hq9 => ?_) (fun i9 P9 hq9 => by cases hq9)
  cases hq9
  refine x_aload_nr dL_law_2706 rfl ?_
  obtain ⟨_, e8, h⟩ := Option.bind_eq_some_iff.mp h
  obtain ⟨fse8, e8⟩ := kO_ok e8
  obtain ⟨r6, e7, h⟩ := Option.bind_eq_some_iff.mp h
  replace h := xU_ok h
  obtain ⟨P5, rfl, h⟩ := h
  refine x_callV (c_X11_image hl e7) dL_law_2707 cw_X11_image wl_L_267 wi_X11_image wse_X11_image rfl e8 (by decide) rfl (by omega) (by decide) rfl (Nat.le_of_ble_eq_true rfl) rfl (fun v9 P9 hq9 => ?_) (fun i9 P9 hq9 => by cases hq9)
  cases hq9
  refine x_goto 2751 dL_law_2710 (by decide) ?_
  exact Wp.mask [true, true, true, true, true, false, false] (hrec 2751 _ _ _ h _ _ rfl _ hQ)
set_option maxHeartbeats 2000000 in
set_option maxRecDepth 20000 in
theorem t_L_law_2713 {G : xG} {l : Launch} (hl : l.stackTraces = false) {n : Nat} {rec : Nat → List Value → xH → xO} (hrec : ∀ pc env P z, rec pc env P = some z → ∀ L st, lay_L_law pc env = some (L, st) → ∀ Q : xR → xH → Prop, Q z.1 z.2 → Wp G l 45 mL_law pc L st P Q) {a1 a2 a3 a4} {P : xH} {z : xR × xH} (h : b_L_law_2713 n G.2.2.2.2.1 G.2.2.2.2.2 rec a1 a2 a3 a4 P = some z) {Q : xR → xH → Prop} (hQ : Q z.1 z.2) : Wp G l 45 mL_law 2713 [some (.retAddr 0), some (.ref a1), some (.ref a2), some (.ref a3), some (.int a4), none, none] [] P Q := by
  unfold b_L_law_2713 at h
  refine x_aload_nr dL_law_2713 rfl ?_
  obtain ⟨_, e5, h⟩ := Option.bind_eq_some_iff.mp h
  obtain ⟨fse5, e5⟩ := kO_ok e5
  obtain ⟨r2, e3, h⟩ := Option.bind_eq_some_iff.mp h
  replace h := xI_ok h
  obtain ⟨v4, P1, rfl, h⟩ := h
  refine x_callV (c_X10_back hl e3) dL_law_2714 cw_X10_back wl_L_268 wi_X10_back wse_X10_back rfl e5 (by decide) rfl (by omega) (by decide) rfl (Nat.le_of_ble_eq_true rfl) rfl (fun v9 P9 hq9 => ?_) (fun i9 P9 hq9 => by cases hq9)
  cases hq9
  refine x_aload_nr dL_law_2717 rfl ?_
  obtain ⟨_, e10, h⟩ := Option.bind_eq_some_iff.mp h
  obtain ⟨fse10, e10⟩ := kO_ok e10
  obtain ⟨r7, e8, h⟩ := Option.bind_eq_some_iff.mp h
  replace h := xI_ok h
  obtain ⟨v9, P6, rfl, h⟩ := h
  refine x_callV (c_X11_back hl e8) dL_law_2718 cw_X11_back wl_L_272 wi_X11_back wse_X11_back rfl e10 (by decide) rfl (by omega) (by decide) rfl (Nat.le_of_ble_eq_true rfl) rfl (fun v9 P9 hq9 => ?_) (fun i9 P9 hq9 => by cases hq9)
  cases hq9
  refine x_icmp_eq 2751 dL_law_2721 (by decide) (fun q11 => ?_) (fun q11 => ?_)
  · rw [if_pos q11] at h
    exact Wp.mask [true, true, true, true, true, false, false] (hrec 2751 _ _ _ h _ _ rfl _ hQ)
  · rw [if_neg q11] at h
    refine x_iconst 0 dL_law_2724 (by decide) ?_
    cases h
    exact x_iret .boolean rfl rfl dL_law_2725 hQ
set_option maxHeartbeats 2000000 in
set_option maxRecDepth 20000 in
theorem t_L_law_2726 {G : xG} {l : Launch} (hl : l.stackTraces = false) {n : Nat} {rec : Nat → List Value → xH → xO} (hrec : ∀ pc env P z, rec pc env P = some z → ∀ L st, lay_L_law pc env = some (L, st) → ∀ Q : xR → xH → Prop, Q z.1 z.2 → Wp G l 45 mL_law pc L st P Q) {a1 a2 a3 a4} {P : xH} {z : xR × xH} (h : b_L_law_2726 n G.2.2.2.2.1 G.2.2.2.2.2 rec a1 a2 a3 a4 P = some z) {Q : xR → xH → Prop} (hQ : Q z.1 z.2) : Wp G l 45 mL_law 2726 [some (.retAddr 0), some (.ref a1), some (.ref a2), some (.ref a3), some (.int a4), none, none] [] P Q := by
  unfold b_L_law_2726 at h
  refine x_aload_nr dL_law_2726 rfl ?_
  refine x_aload_n (Or.inr ⟨_, rfl⟩) dL_law_2727 rfl ?_
  refine x_iload dL_law_2728 rfl ?_
  refine x_iconst 1 dL_law_2730 (by decide) ?_
  refine x_iadd dL_law_2731 ?_
  obtain ⟨v1, e2, h⟩ := Option.bind_eq_some_iff.mp h
  refine k_rS e2 dL_law_2732 ?_
  obtain ⟨_, e7, h⟩ := Option.bind_eq_some_iff.mp h
  obtain ⟨fse7, e7⟩ := kO_ok e7
  obtain ⟨r4, e5, h⟩ := Option.bind_eq_some_iff.mp h
  replace h := xI_ok h
  obtain ⟨v6, P3, rfl, h⟩ := h
  refine x_callV (c_X10_count hl e5) dL_law_2733 cw_X10_count wl_L_273 wi_X10_count wse_X10_count rfl e7 (by decide) rfl (by omega) (by decide) rfl (Nat.le_of_ble_eq_true rfl) rfl (fun v9 P9 hq9 => ?_) (fun i9 P9 hq9 => by cases hq9)
  cases hq9
  refine x_aload_nr dL_law_2736 rfl ?_
  refine x_aload_n (Or.inr ⟨_, rfl⟩) dL_law_2737 rfl ?_
  refine x_iload dL_law_2738 rfl ?_
  refine x_iconst 1 dL_law_2740 (by decide) ?_
  refine x_iadd dL_law_2741 ?_
  obtain ⟨v8, e9, h⟩ := Option.bind_eq_some_iff.mp h
  refine k_rS e9 dL_law_2742 ?_
  obtain ⟨_, e14, h⟩ := Option.bind_eq_some_iff.mp h
  obtain ⟨fse14, e14⟩ := kO_ok e14
  obtain ⟨r11, e12, h⟩ := Option.bind_eq_some_iff.mp h
  replace h := xI_ok h
  obtain ⟨v13, P10, rfl, h⟩ := h
  refine x_callV (c_X11_count hl e12) dL_law_2743 cw_X11_count wl_L_276 wi_X11_count wse_X11_count rfl e14 (by decide) rfl (by omega) (by decide) rfl (Nat.le_of_ble_eq_true rfl) rfl (fun v9 P9 hq9 => ?_) (fun i9 P9 hq9 => by cases hq9)
  cases hq9
  refine x_icmp_eq 2751 dL_law_2746 (by decide) (fun q15 => ?_) (fun q15 => ?_)
  · rw [if_pos q15] at h
    exact Wp.mask [true, true, true, true, true, false, false] (hrec 2751 _ _ _ h _ _ rfl _ hQ)
  · rw [if_neg q15] at h
    refine x_iconst 0 dL_law_2749 (by decide) ?_
    cases h
    exact x_iret .boolean rfl rfl dL_law_2750 hQ
set_option maxHeartbeats 2000000 in
set_option maxRecDepth 20000 in
theorem t_L_law_2751 {G : xG} {l : Launch} (hl : l.stackTraces = false) {n : Nat} {rec : Nat → List Value → xH → xO} (hrec : ∀ pc env P z, rec pc env P = some z → ∀ L st, lay_L_law pc env = some (L, st) → ∀ Q : xR → xH → Prop, Q z.1 z.2 → Wp G l 45 mL_law pc L st P Q) {a1 a2 a3 a4} {P : xH} {z : xR × xH} (h : b_L_law_2751 n G.2.2.2.2.1 G.2.2.2.2.2 rec a1 a2 a3 a4 P = some z) {Q : xR → xH → Prop} (hQ : Q z.1 z.2) : Wp G l 45 mL_law 2751 [some (.retAddr 0), some (.ref a1), some (.ref a2), some (.ref a3), some (.int a4), none, none] [] P Q := by
  unfold b_L_law_2751 at h
  refine x_iinc (a4 + 8) dL_law_2751 rfl (by rfl) ?_
  refine x_goto 23 dL_law_2754 (by decide) ?_
  exact Wp.mask [true, true, true, true, true, false, false] (hrec 23 _ _ _ h _ _ rfl _ hQ)
set_option maxHeartbeats 4000000 in
set_option maxRecDepth 20000 in
theorem s_L_law {G : xG} {l : Launch} (hl : l.stackTraces = false) : ∀ n pc env P z, f_L_law G.2.2.2.2.1 G.2.2.2.2.2 n pc env P = some z → ∀ L st, lay_L_law pc env = some (L, st) → ∀ Q : xR → xH → Prop, Q z.1 z.2 → Wp G l 45 mL_law pc L st P Q := by
  intro n
  induction n with
  | zero => intro pc env P z h; cases h
  | succ n ih =>
    intro pc env P z h L st hlay Q hQ
    unfold f_L_law at h
    by_cases q : pc = 0
    · subst q
      rw [if_pos rfl] at h
      split at h
      · cases hlay
        exact t_L_law_0 hl ih h hQ
      · cases h
    rw [if_neg q] at h
    by_cases q : pc = 23
    · subst q
      rw [if_pos rfl] at h
      split at h
      · cases hlay
        exact t_L_law_23 hl ih h hQ
      · cases h
    rw [if_neg q] at h
    by_cases q : pc = 216
    · subst q
      rw [if_pos rfl] at h
      split at h
      · cases hlay
        exact t_L_law_216 hl ih h hQ
      · cases h
    rw [if_neg q] at h
    by_cases q : pc = 289
    · subst q
      rw [if_pos rfl] at h
      split at h
      · cases hlay
        exact t_L_law_289 hl ih h hQ
      · cases h
    rw [if_neg q] at h
    by_cases q : pc = 314
    · subst q
      rw [if_pos rfl] at h
      split at h
      · cases hlay
        exact t_L_law_314 hl ih h hQ
      · cases h
    rw [if_neg q] at h
    by_cases q : pc = 406
    · subst q
      rw [if_pos rfl] at h
      split at h
      · cases hlay
        exact t_L_law_406 hl ih h hQ
      · cases h
    rw [if_neg q] at h
    by_cases q : pc = 498
    · subst q
      rw [if_pos rfl] at h
      split at h
      · cases hlay
        exact t_L_law_498 hl ih h hQ
      · cases h
    rw [if_neg q] at h
    by_cases q : pc = 542
    · subst q
      rw [if_pos rfl] at h
      split at h
      · cases hlay
        exact t_L_law_542 hl ih h hQ
      · cases h
    rw [if_neg q] at h
    by_cases q : pc = 555
    · subst q
      rw [if_pos rfl] at h
      split at h
      · cases hlay
        exact t_L_law_555 hl ih h hQ
      · cases h
    rw [if_neg q] at h
    by_cases q : pc = 687
    · subst q
      rw [if_pos rfl] at h
      split at h
      · cases hlay
        exact t_L_law_687 hl ih h hQ
      · cases h
    rw [if_neg q] at h
    by_cases q : pc = 767
    · subst q
      rw [if_pos rfl] at h
      split at h
      · cases hlay
        exact t_L_law_767 hl ih h hQ
      · cases h
    rw [if_neg q] at h
    by_cases q : pc = 823
    · subst q
      rw [if_pos rfl] at h
      split at h
      · cases hlay
        exact t_L_law_823 hl ih h hQ
      · cases h
    rw [if_neg q] at h
    by_cases q : pc = 891
    · subst q
      rw [if_pos rfl] at h
      split at h
      · cases hlay
        exact t_L_law_891 hl ih h hQ
      · cases h
    rw [if_neg q] at h
    by_cases q : pc = 971
    · subst q
      rw [if_pos rfl] at h
      split at h
      · cases hlay
        exact t_L_law_971 hl ih h hQ
      · cases h
    rw [if_neg q] at h
    by_cases q : pc = 1039
    · subst q
      rw [if_pos rfl] at h
      split at h
      · cases hlay
        exact t_L_law_1039 hl ih h hQ
      · cases h
    rw [if_neg q] at h
    by_cases q : pc = 1095
    · subst q
      rw [if_pos rfl] at h
      split at h
      · cases hlay
        exact t_L_law_1095 hl ih h hQ
      · cases h
    rw [if_neg q] at h
    by_cases q : pc = 1163
    · subst q
      rw [if_pos rfl] at h
      split at h
      · cases hlay
        exact t_L_law_1163 hl ih h hQ
      · cases h
    rw [if_neg q] at h
    by_cases q : pc = 1219
    · subst q
      rw [if_pos rfl] at h
      split at h
      · cases hlay
        exact t_L_law_1219 hl ih h hQ
      · cases h
    rw [if_neg q] at h
    by_cases q : pc = 1275
    · subst q
      rw [if_pos rfl] at h
      split at h
      · cases hlay
        exact t_L_law_1275 hl ih h hQ
      · cases h
    rw [if_neg q] at h
    by_cases q : pc = 1302
    · subst q
      rw [if_pos rfl] at h
      split at h
      · cases hlay
        exact t_L_law_1302 hl ih h hQ
      · cases h
    rw [if_neg q] at h
    by_cases q : pc = 1335
    · subst q
      rw [if_pos rfl] at h
      split at h
      · cases hlay
        exact t_L_law_1335 hl ih h hQ
      · cases h
    rw [if_neg q] at h
    by_cases q : pc = 1371
    · subst q
      rw [if_pos rfl] at h
      split at h
      · cases hlay
        exact t_L_law_1371 hl ih h hQ
      · cases h
    rw [if_neg q] at h
    by_cases q : pc = 1407
    · subst q
      rw [if_pos rfl] at h
      split at h
      · cases hlay
        exact t_L_law_1407 hl ih h hQ
      · cases h
    rw [if_neg q] at h
    by_cases q : pc = 1487
    · subst q
      rw [if_pos rfl] at h
      split at h
      · cases hlay
        exact t_L_law_1487 hl ih h hQ
      · cases h
    rw [if_neg q] at h
    by_cases q : pc = 1514
    · subst q
      rw [if_pos rfl] at h
      split at h
      · cases hlay
        exact t_L_law_1514 hl ih h hQ
      · cases h
    rw [if_neg q] at h
    by_cases q : pc = 1547
    · subst q
      rw [if_pos rfl] at h
      split at h
      · cases hlay
        exact t_L_law_1547 hl ih h hQ
      · cases h
    rw [if_neg q] at h
    by_cases q : pc = 1583
    · subst q
      rw [if_pos rfl] at h
      split at h
      · cases hlay
        exact t_L_law_1583 hl ih h hQ
      · cases h
    rw [if_neg q] at h
    by_cases q : pc = 1604
    · subst q
      rw [if_pos rfl] at h
      split at h
      · cases hlay
        exact t_L_law_1604 hl ih h hQ
      · cases h
    rw [if_neg q] at h
    by_cases q : pc = 1631
    · subst q
      rw [if_pos rfl] at h
      split at h
      · cases hlay
        exact t_L_law_1631 hl ih h hQ
      · cases h
    rw [if_neg q] at h
    by_cases q : pc = 1665
    · subst q
      rw [if_pos rfl] at h
      split at h
      · cases hlay
        exact t_L_law_1665 hl ih h hQ
      · cases h
    rw [if_neg q] at h
    by_cases q : pc = 1674
    · subst q
      rw [if_pos rfl] at h
      split at h
      · cases hlay
        exact t_L_law_1674 hl ih h hQ
      · cases h
    rw [if_neg q] at h
    by_cases q : pc = 1730
    · subst q
      rw [if_pos rfl] at h
      split at h
      · cases hlay
        exact t_L_law_1730 hl ih h hQ
      · cases h
    rw [if_neg q] at h
    by_cases q : pc = 1798
    · subst q
      rw [if_pos rfl] at h
      split at h
      · cases hlay
        exact t_L_law_1798 hl ih h hQ
      · cases h
    rw [if_neg q] at h
    by_cases q : pc = 1878
    · subst q
      rw [if_pos rfl] at h
      split at h
      · cases hlay
        exact t_L_law_1878 hl ih h hQ
      · cases h
    rw [if_neg q] at h
    by_cases q : pc = 1914
    · subst q
      rw [if_pos rfl] at h
      split at h
      · cases hlay
        exact t_L_law_1914 hl ih h hQ
      · cases h
    rw [if_neg q] at h
    by_cases q : pc = 1970
    · subst q
      rw [if_pos rfl] at h
      split at h
      · cases hlay
        exact t_L_law_1970 hl ih h hQ
      · cases h
    rw [if_neg q] at h
    by_cases q : pc = 2026
    · subst q
      rw [if_pos rfl] at h
      split at h
      · cases hlay
        exact t_L_law_2026 hl ih h hQ
      · cases h
    rw [if_neg q] at h
    by_cases q : pc = 2130
    · subst q
      rw [if_pos rfl] at h
      split at h
      · cases hlay
        exact t_L_law_2130 hl ih h hQ
      · cases h
    rw [if_neg q] at h
    by_cases q : pc = 2198
    · subst q
      rw [if_pos rfl] at h
      split at h
      · cases hlay
        exact t_L_law_2198 hl ih h hQ
      · cases h
    rw [if_neg q] at h
    by_cases q : pc = 2266
    · subst q
      rw [if_pos rfl] at h
      split at h
      · cases hlay
        exact t_L_law_2266 hl ih h hQ
      · cases h
    rw [if_neg q] at h
    by_cases q : pc = 2322
    · subst q
      rw [if_pos rfl] at h
      split at h
      · cases hlay
        exact t_L_law_2322 hl ih h hQ
      · cases h
    rw [if_neg q] at h
    by_cases q : pc = 2343
    · subst q
      rw [if_pos rfl] at h
      split at h
      · cases hlay
        exact t_L_law_2343 hl ih h hQ
      · cases h
    rw [if_neg q] at h
    by_cases q : pc = 2370
    · subst q
      rw [if_pos rfl] at h
      split at h
      · cases hlay
        exact t_L_law_2370 hl ih h hQ
      · cases h
    rw [if_neg q] at h
    by_cases q : pc = 2404
    · subst q
      rw [if_pos rfl] at h
      split at h
      · cases hlay
        exact t_L_law_2404 hl ih h hQ
      · cases h
    rw [if_neg q] at h
    by_cases q : pc = 2413
    · subst q
      rw [if_pos rfl] at h
      split at h
      · cases hlay
        exact t_L_law_2413 hl ih h hQ
      · cases h
    rw [if_neg q] at h
    by_cases q : pc = 2434
    · subst q
      rw [if_pos rfl] at h
      split at h
      · cases hlay
        exact t_L_law_2434 hl ih h hQ
      · cases h
    rw [if_neg q] at h
    by_cases q : pc = 2461
    · subst q
      rw [if_pos rfl] at h
      split at h
      · cases hlay
        exact t_L_law_2461 hl ih h hQ
      · cases h
    rw [if_neg q] at h
    by_cases q : pc = 2497
    · subst q
      rw [if_pos rfl] at h
      split at h
      · cases hlay
        exact t_L_law_2497 hl ih h hQ
      · cases h
    rw [if_neg q] at h
    by_cases q : pc = 2565
    · subst q
      rw [if_pos rfl] at h
      split at h
      · cases hlay
        exact t_L_law_2565 hl ih h hQ
      · cases h
    rw [if_neg q] at h
    by_cases q : pc = 2621
    · subst q
      rw [if_pos rfl] at h
      split at h
      · cases hlay
        exact t_L_law_2621 hl ih h hQ
      · cases h
    rw [if_neg q] at h
    by_cases q : pc = 2689
    · subst q
      rw [if_pos rfl] at h
      split at h
      · cases hlay
        exact t_L_law_2689 hl ih h hQ
      · cases h
    rw [if_neg q] at h
    by_cases q : pc = 2702
    · subst q
      rw [if_pos rfl] at h
      split at h
      · cases hlay
        exact t_L_law_2702 hl ih h hQ
      · cases h
    rw [if_neg q] at h
    by_cases q : pc = 2713
    · subst q
      rw [if_pos rfl] at h
      split at h
      · cases hlay
        exact t_L_law_2713 hl ih h hQ
      · cases h
    rw [if_neg q] at h
    by_cases q : pc = 2726
    · subst q
      rw [if_pos rfl] at h
      split at h
      · cases hlay
        exact t_L_law_2726 hl ih h hQ
      · cases h
    rw [if_neg q] at h
    by_cases q : pc = 2751
    · subst q
      rw [if_pos rfl] at h
      split at h
      · cases hlay
        exact t_L_law_2751 hl ih h hQ
      · cases h
    rw [if_neg q] at h
    cases h
