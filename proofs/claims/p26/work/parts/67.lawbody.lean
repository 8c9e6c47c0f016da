/-! printed by wip/gen/gen26.py: one round of the law, behind the two numbers of the script -/
noncomputable def f_L_law_J184 (u0 : Nat) (c213 : Int → Hp → Option (Int × Hp)) (x3 : Int) (x4 : Int) (x5 : Int) (s1 : Int) (s2 : Int) (s3 : Int) (h : Hp) : Option (Int × Hp) :=
  bd (f_L_low s2 s3 h) fun r8 h8 =>
  bd (f_L_weeks (wr (s1 + r8)) h8) fun r9 h9 =>
  if r9 = 0 then
    c213 0 h9
  else
    bd (f_L_hands  h9) fun r10 h10 =>
    if r10 = 0 then
      c213 0 h10
    else
      bd (f_L_low (Int32.ofInt x4 >>> (Int32.ofInt 5 &&& 31)).toInt 7 h10) fun r11 h11 =>
      bd (f_L_low (Int32.ofInt x5 >>> (Int32.ofInt 6 &&& 31)).toInt 4 h11) fun r12 h12 =>
      bd (f_L_low (Int32.ofInt x4 >>> (Int32.ofInt 8 &&& 31)).toInt 5 h12) fun r13 h13 =>
      bd (f_L_tells r11 r12 r13 h13) fun r14 h14 =>
      if r14 = 0 then
        c213 0 h14
      else
        c213 1 h14
noncomputable def f_L_law_J165 (u0 : Nat) (c213 : Int → Hp → Option (Int × Hp)) (x2 : Int) (x3 : Int) (x4 : Int) (x5 : Int) (h : Hp) : Option (Int × Hp) :=
  if x2 = 0 then
    c213 0 h
  else
    bd (f_L_hangs  h) fun r6 h6 =>
    if r6 = 0 then
      c213 0 h6
    else
      bd (f_L_low (Int32.ofInt x5 >>> (Int32.ofInt 10 &&& 31)).toInt 3 h6) fun r7 h7 =>
      if ¬ r7 = 0 then
        f_L_law_J184 u0 c213 x3 x4 x5 1 (Int32.ofInt x5 >>> (Int32.ofInt 4 &&& 31)).toInt 6 h7
      else
        f_L_law_J184 u0 c213 x3 x4 x5 1 (Int32.ofInt x5 >>> (Int32.ofInt 4 &&& 31)).toInt 20 h7
noncomputable def f_L_law_J164 (u0 : Nat) (c213 : Int → Hp → Option (Int × Hp)) (x3 : Int) (x4 : Int) (x5 : Int) (s0 : Int) (h : Hp) : Option (Int × Hp) :=
  f_L_law_J165 u0 c213 s0 x3 x4 x5 h
noncomputable def f_L_law_J163 (u0 : Nat) (c213 : Int → Hp → Option (Int × Hp)) (x3 : Int) (x4 : Int) (x5 : Int) (h : Hp) : Option (Int × Hp) :=
  f_L_law_J164 u0 c213 x3 x4 x5 0 h
noncomputable def f_L_law_J149 (u0 : Nat) (c213 : Int → Hp → Option (Int × Hp)) (x3 : Int) (x4 : Int) (x5 : Int) (x7 : Int64) (x9 : Int) (s0 : Int) (s1 : Int) (h : Hp) : Option (Int × Hp) :=
  if ¬ s0 = s1 then
    f_L_law_J163 u0 c213 x3 x4 x5 h
  else
    bd (f_L_print  h) fun r17 h17 =>
    if ¬ (lg_cmp (Int64.ofInt r17) x7).toInt = 0 then
      f_L_law_J163 u0 c213 x3 x4 x5 h17
    else
      bd (f_L_act x4 x5 h17) fun r18 h18 =>
      if ¬ r18 = x9 then
        f_L_law_J163 u0 c213 x3 x4 x5 h18
      else
        f_L_law_J164 u0 c213 x3 x4 x5 1 h18
noncomputable def f_L_law_J129 (u0 : Nat) (c213 : Int → Hp → Option (Int × Hp)) (x3 : Int) (x4 : Int) (x5 : Int) (x6 : Int) (x7 : Int64) (x9 : Int) (s0 : Int) (h : Hp) : Option (Int × Hp) :=
  if s0 = 0 then
    f_L_law_J165 u0 c213 s0 x3 x4 x5 h
  else
    if x3 ≤ 5 then
      f_L_law_J165 u0 c213 s0 x3 x4 x5 h
    else
      bd (f_L_low (Int32.ofInt x5 >>> (Int32.ofInt 5 &&& 31)).toInt 4 h) fun r15 h15 =>
      if ¬ r15 = 0 then
        f_L_law_J165 u0 c213 s0 x3 x4 x5 h15
      else
        bd (f_X4_undo  h15) fun r16 h16 =>
        if 4 ≤ x6 then
          f_L_law_J149 u0 c213 x3 x4 x5 x7 x9 r16 3 h16
        else
          f_L_law_J149 u0 c213 x3 x4 x5 x7 x9 r16 x6 h16
noncomputable def f_L_law_J125 (u0 : Nat) (c213 : Int → Hp → Option (Int × Hp)) (x3 : Int) (x4 : Int) (x5 : Int) (x6 : Int) (x7 : Int64) (x9 : Int) (s0 : Int) (s1 : Int) (h : Hp) : Option (Int × Hp) :=
  if ¬ s0 = s1 then
    f_L_law_J129 u0 c213 x3 x4 x5 x6 x7 x9 0 h
  else
    f_L_law_J129 u0 c213 x3 x4 x5 x6 x7 x9 1 h
noncomputable def f_L_law_J112 (u0 : Nat) (c213 : Int → Hp → Option (Int × Hp)) (x3 : Int) (x4 : Int) (x5 : Int) (s0 : Int) (h : Hp) : Option (Int × Hp) :=
  f_L_law_J165 u0 c213 s0 x3 x4 x5 h
noncomputable def f_L_law_J111 (u0 : Nat) (c213 : Int → Hp → Option (Int × Hp)) (x3 : Int) (x4 : Int) (x5 : Int) (h : Hp) : Option (Int × Hp) :=
  f_L_law_J112 u0 c213 x3 x4 x5 0 h
noncomputable def f_L_law_J96 (u0 : Nat) (c213 : Int → Hp → Option (Int × Hp)) (x3 : Int) (x4 : Int) (x5 : Int) (x6 : Int) (x7 : Int64) (s0 : Int) (h : Hp) : Option (Int × Hp) :=
  if 0 ≤ s0 then
    bd (f_X4_count 13 h) fun r5 h5 =>
    if 4 ≤ x6 then
      f_L_law_J125 u0 c213 x3 x4 x5 x6 x7 s0 r5 4 h5
    else
      f_L_law_J125 u0 c213 x3 x4 x5 x6 x7 s0 r5 (wr (x6 + 1)) h5
  else
    bd (f_X4_count 13 h) fun r19 h19 =>
    if ¬ r19 = x6 then
      f_L_law_J111 u0 c213 x3 x4 x5 h19
    else
      bd (f_L_print  h19) fun r20 h20 =>
      if ¬ (lg_cmp (Int64.ofInt r20) x7).toInt = 0 then
        f_L_law_J111 u0 c213 x3 x4 x5 h20
      else
        f_L_law_J112 u0 c213 x3 x4 x5 1 h20
noncomputable def f_L_law_J35 (u0 : Nat) (c213 : Int → Hp → Option (Int × Hp)) (x3 : Int) (x4 : Int) (x5 : Int) (h : Hp) : Option (Int × Hp) :=
  bd (f_X4_count 13 h) fun r1 h1 =>
  bd (f_L_print  h1) fun r2 h2 =>
  ll (Int64.ofInt r2) fun y3 =>
  if 3 ≤ x3 then
    if 6 ≤ x3 then
      bd (f_L_act x4 x5 h2) fun r4 h4 =>
      f_L_law_J96 u0 c213 x3 x4 x5 r1 y3 r4 h4
    else
      bd (f_L_low x4 5 h2) fun r21 h21 =>
      bd (f_L_low (Int32.ofInt x4 >>> (Int32.ofInt 3 &&& 31)).toInt 5 h21) fun r22 h22 =>
      bd (f_L_low x5 4 h22) fun r23 h23 =>
      bd (f_L_low (Int32.ofInt x5 >>> (Int32.ofInt 3 &&& 31)).toInt 5 h23) fun r24 h24 =>
      bd (f_X4_claim (wr (r21 - 1)) (wr (r22 - 1)) r23 (wr (r24 - 1)) h24) fun r25 h25 =>
      f_L_law_J96 u0 c213 x3 x4 x5 r1 y3 r25 h25
  else
    bd (f_L_low x4 4 h2) fun r26 h26 =>
    bd (f_L_low (Int32.ofInt x4 >>> (Int32.ofInt 2 &&& 31)).toInt 4 h26) fun r27 h27 =>
    bd (f_L_low x5 4 h27) fun r28 h28 =>
    bd (f_L_low (Int32.ofInt x5 >>> (Int32.ofInt 2 &&& 31)).toInt 4 h28) fun r29 h29 =>
    bd (f_X4_find r26 r27 r28 r29 h29) fun r30 h30 =>
    f_L_law_J96 u0 c213 x3 x4 x5 r1 y3 r30 h30
set_option maxRecDepth 20000 in
set_option maxHeartbeats 1000000 in
theorem t_L_law_J184 (u0 : Nat) (hu0 : u0 + 6 ≤ 600) (c213 : Int → Hp → Option (Int × Hp)) (x3 : Int) (x4 : Int) (x5 : Int) (s1 : Int) (s2 : Int) (s3 : Int) (hc213 : ∀ (y2 : Int) (h : Hp), Z M_L_law (u0 + 6) 0 213 [some (vr 99), some (vr 0), some (vi y2), some (vi x3), none, none, none, none, none, none] [] h (c213 y2 h)) (h : Hp) : Z M_L_law (u0 + 2) 0 184 [some (vr 99), some (vr 0), none, some (vi x3), some (vi x4), some (vi x5), none, none, none, none] [vi s3, vi s2, vi s1, vr 0] h (f_L_law_J184 u0 c213 x3 x4 x5 s1 s2 s3 h) := by
  unfold f_L_law_J184
  refine z_S2i ms_L_10 (t_L_low _ _ _) rfl rfl rfl (lowL (b := 0) rfl rfl (by omega)) rfl (fun r8 h8 => ?_)
  refine Z.cast (u2 := (u0 + 2)) rfl ?_
  refine z_iadd rfl ?_
  refine z_S2i ms_L_118 (t_L_weeks _ _) rfl rfl rfl (lowL (b := 2) rfl rfl (by omega)) rfl (fun r9 h9 => ?_)
  refine Z.cast (u2 := (u0 + 4)) rfl ?_
  refine z_if_eq rfl ?_ ?_
  · refine Z.up (u2 := (u0 + 6)) (by omega) ?_
    refine z_iconst rfl rfl ?_
    refine z_istore_n rfl rfl ?_
    refine Z.weak ?_ (hc213 _ _)
    exact wkL_c (wkL_c (wkL_c (wkL_c (wkL_n (wkL_n (wkL_n (wkL_n (wkL_n (wkL_n (wkL_nil _))))))))))
  · refine z_aload_n rfl rfl ?_
    refine z_S1i ms_L_107 (t_L_hands  _) rfl rfl rfl (lowL (b := 2) rfl rfl (by omega)) rfl (fun r10 h10 => ?_)
    refine Z.cast (u2 := (u0 + 6)) rfl ?_
    refine z_if_eq rfl ?_ ?_
    · refine z_iconst rfl rfl ?_
      refine z_istore_n rfl rfl ?_
      refine Z.weak ?_ (hc213 _ _)
      exact wkL_c (wkL_c (wkL_c (wkL_c (wkL_n (wkL_n (wkL_n (wkL_n (wkL_n (wkL_n (wkL_nil _))))))))))
    · refine z_aload_n rfl rfl ?_
      refine z_iload rfl rfl ?_
      refine z_iconst rfl rfl ?_
      refine z_ishr rfl ?_
      refine z_bipush rfl rfl ?_
      refine z_S2i ms_L_10 (t_L_low _ _ _) rfl rfl rfl (lowL (b := 0) rfl rfl (by omega)) rfl (fun r11 h11 => ?_)
      refine Z.cast (u2 := (u0 + 6)) rfl ?_
      refine z_iload rfl rfl ?_
      refine z_bipush rfl rfl ?_
      refine z_ishr rfl ?_
      refine z_iconst rfl rfl ?_
      refine z_S2i ms_L_10 (t_L_low _ _ _) rfl rfl rfl (lowL (b := 0) rfl rfl (by omega)) rfl (fun r12 h12 => ?_)
      refine Z.cast (u2 := (u0 + 6)) rfl ?_
      refine z_iload rfl rfl ?_
      refine z_bipush rfl rfl ?_
      refine z_ishr rfl ?_
      refine z_iconst rfl rfl ?_
      refine z_S2i ms_L_10 (t_L_low _ _ _) rfl rfl rfl (lowL (b := 0) rfl rfl (by omega)) rfl (fun r13 h13 => ?_)
      refine Z.cast (u2 := (u0 + 6)) rfl ?_
      refine z_S4i ms_L_121 (t_L_tells _ _ _ _) rfl rfl rfl (lowL (b := 0) rfl rfl (by omega)) rfl (fun r14 h14 => ?_)
      refine Z.cast (u2 := (u0 + 6)) rfl ?_
      refine z_if_eq rfl ?_ ?_
      · refine z_iconst rfl rfl ?_
        refine z_istore_n rfl rfl ?_
        refine Z.weak ?_ (hc213 _ _)
        exact wkL_c (wkL_c (wkL_c (wkL_c (wkL_n (wkL_n (wkL_n (wkL_n (wkL_n (wkL_n (wkL_nil _))))))))))
      · refine z_iconst rfl rfl ?_
        refine z_goto rfl ?_
        refine z_istore_n rfl rfl ?_
        refine Z.weak ?_ (hc213 _ _)
        exact wkL_c (wkL_c (wkL_c (wkL_c (wkL_n (wkL_n (wkL_n (wkL_n (wkL_n (wkL_n (wkL_nil _))))))))))
set_option maxRecDepth 20000 in
set_option maxHeartbeats 1000000 in
theorem t_L_law_J165 (u0 : Nat) (hu0 : u0 + 6 ≤ 600) (c213 : Int → Hp → Option (Int × Hp)) (x2 : Int) (x3 : Int) (x4 : Int) (x5 : Int) (hc213 : ∀ (y2 : Int) (h : Hp), Z M_L_law (u0 + 6) 0 213 [some (vr 99), some (vr 0), some (vi y2), some (vi x3), none, none, none, none, none, none] [] h (c213 y2 h)) (h : Hp) : Z M_L_law (u0 + 0) 0 165 [some (vr 99), some (vr 0), some (vi x2), some (vi x3), some (vi x4), some (vi x5), none, none, none, none] [] h (f_L_law_J165 u0 c213 x2 x3 x4 x5 h) := by
  unfold f_L_law_J165
  refine z_iload_n rfl rfl ?_
  refine z_if_eq rfl ?_ ?_
  · refine Z.up (u2 := (u0 + 6)) (by omega) ?_
    refine z_iconst rfl rfl ?_
    refine z_istore_n rfl rfl ?_
    refine Z.weak ?_ (hc213 _ _)
    exact wkL_c (wkL_c (wkL_c (wkL_c (wkL_n (wkL_n (wkL_n (wkL_n (wkL_n (wkL_n (wkL_nil _))))))))))
  · refine z_aload_n rfl rfl ?_
    refine z_S1i ms_L_96 (t_L_hangs  _) rfl rfl rfl (lowL (b := 2) rfl rfl (by omega)) rfl (fun r6 h6 => ?_)
    refine Z.cast (u2 := (u0 + 2)) rfl ?_
    refine z_if_eq rfl ?_ ?_
    · refine Z.up (u2 := (u0 + 6)) (by omega) ?_
      refine z_iconst rfl rfl ?_
      refine z_istore_n rfl rfl ?_
      refine Z.weak ?_ (hc213 _ _)
      exact wkL_c (wkL_c (wkL_c (wkL_c (wkL_n (wkL_n (wkL_n (wkL_n (wkL_n (wkL_n (wkL_nil _))))))))))
    · refine z_aload_n rfl rfl ?_
      refine z_iconst rfl rfl ?_
      refine z_iload rfl rfl ?_
      refine z_iconst rfl rfl ?_
      refine z_ishr rfl ?_
      refine z_iload rfl rfl ?_
      refine z_bipush rfl rfl ?_
      refine z_ishr rfl ?_
      refine z_iconst rfl rfl ?_
      refine z_S2i ms_L_10 (t_L_low _ _ _) rfl rfl rfl (lowL (b := 0) rfl rfl (by omega)) rfl (fun r7 h7 => ?_)
      refine Z.cast (u2 := (u0 + 2)) rfl ?_
      refine z_if_ne rfl ?_ ?_
      · refine z_bipush rfl rfl ?_
        refine Z.weak ?_ (t_L_law_J184 u0 hu0 _ _ _ _ _ _ _ hc213 _)
        exact wkL_c (wkL_c (wkL_n (wkL_c (wkL_c (wkL_c (wkL_n (wkL_n (wkL_n (wkL_n (wkL_nil _))))))))))
      · refine z_bipush rfl rfl ?_
        refine z_goto rfl ?_
        refine Z.weak ?_ (t_L_law_J184 u0 hu0 _ _ _ _ _ _ _ hc213 _)
        exact wkL_c (wkL_c (wkL_n (wkL_c (wkL_c (wkL_c (wkL_n (wkL_n (wkL_n (wkL_n (wkL_nil _))))))))))
set_option maxRecDepth 20000 in
set_option maxHeartbeats 1000000 in
theorem t_L_law_J164 (u0 : Nat) (hu0 : u0 + 6 ≤ 600) (c213 : Int → Hp → Option (Int × Hp)) (x3 : Int) (x4 : Int) (x5 : Int) (s0 : Int) (hc213 : ∀ (y2 : Int) (h : Hp), Z M_L_law (u0 + 6) 0 213 [some (vr 99), some (vr 0), some (vi y2), some (vi x3), none, none, none, none, none, none] [] h (c213 y2 h)) (h : Hp) : Z M_L_law (u0 + 0) 0 164 [some (vr 99), some (vr 0), none, some (vi x3), some (vi x4), some (vi x5), none, none, none, none] [vi s0] h (f_L_law_J164 u0 c213 x3 x4 x5 s0 h) := by
  unfold f_L_law_J164
  refine z_istore_n rfl rfl ?_
  refine Z.weak ?_ (t_L_law_J165 u0 hu0 _ _ _ _ _ hc213 _)
  exact wkL_c (wkL_c (wkL_c (wkL_c (wkL_c (wkL_c (wkL_n (wkL_n (wkL_n (wkL_n (wkL_nil _))))))))))
set_option maxRecDepth 20000 in
set_option maxHeartbeats 1000000 in
theorem t_L_law_J163 (u0 : Nat) (hu0 : u0 + 6 ≤ 600) (c213 : Int → Hp → Option (Int × Hp)) (x3 : Int) (x4 : Int) (x5 : Int) (hc213 : ∀ (y2 : Int) (h : Hp), Z M_L_law (u0 + 6) 0 213 [some (vr 99), some (vr 0), some (vi y2), some (vi x3), none, none, none, none, none, none] [] h (c213 y2 h)) (h : Hp) : Z M_L_law (u0 + 0) 0 163 [some (vr 99), some (vr 0), none, some (vi x3), some (vi x4), some (vi x5), none, none, none, none] [] h (f_L_law_J163 u0 c213 x3 x4 x5 h) := by
  unfold f_L_law_J163
  refine z_iconst rfl rfl ?_
  refine Z.weak ?_ (t_L_law_J164 u0 hu0 _ _ _ _ _ hc213 _)
  exact wkL_c (wkL_c (wkL_n (wkL_c (wkL_c (wkL_c (wkL_n (wkL_n (wkL_n (wkL_n (wkL_nil _))))))))))
set_option maxRecDepth 20000 in
set_option maxHeartbeats 1000000 in
theorem t_L_law_J149 (u0 : Nat) (hu0 : u0 + 6 ≤ 600) (c213 : Int → Hp → Option (Int × Hp)) (x3 : Int) (x4 : Int) (x5 : Int) (x7 : Int64) (x9 : Int) (s0 : Int) (s1 : Int) (hc213 : ∀ (y2 : Int) (h : Hp), Z M_L_law (u0 + 6) 0 213 [some (vr 99), some (vr 0), some (vi y2), some (vi x3), none, none, none, none, none, none] [] h (c213 y2 h)) (h : Hp) : Z M_L_law (u0 + 0) 0 149 [some (vr 99), some (vr 0), none, some (vi x3), some (vi x4), some (vi x5), none, some (vx (.long x7)), none, some (vi x9)] [vi s1, vi s0] h (f_L_law_J149 u0 c213 x3 x4 x5 x7 x9 s0 s1 h) := by
  unfold f_L_law_J149
  refine z_icmp_ne rfl ?_ ?_
  · refine Z.weak ?_ (t_L_law_J163 u0 hu0 _ _ _ _ hc213 _)
    exact wkL_c (wkL_c (wkL_n (wkL_c (wkL_c (wkL_c (wkL_n (wkL_n (wkL_n (wkL_n (wkL_nil _))))))))))
  · refine z_aload_n rfl rfl ?_
    refine z_S1l ms_L_91 (t_L_print  _) rfl rfl rfl (lowL (b := 0) rfl rfl (by omega)) rfl (fun r17 h17 => ?_)
    refine Z.cast (u2 := (u0 + 0)) rfl ?_
    refine z_lload rfl rfl ?_
    refine z_lcmp rfl ?_
    refine z_if_ne rfl ?_ ?_
    · refine Z.weak ?_ (t_L_law_J163 u0 hu0 _ _ _ _ hc213 _)
      exact wkL_c (wkL_c (wkL_n (wkL_c (wkL_c (wkL_c (wkL_n (wkL_n (wkL_n (wkL_n (wkL_nil _))))))))))
    · refine z_aload_n rfl rfl ?_
      refine z_iload rfl rfl ?_
      refine z_iload rfl rfl ?_
      refine z_S3i ms_L_114 (t_L_act _ _ _) rfl rfl rfl (lowL (b := 0) rfl rfl (by omega)) rfl (fun r18 h18 => ?_)
      refine Z.cast (u2 := (u0 + 0)) rfl ?_
      refine z_iload rfl rfl ?_
      refine z_icmp_ne rfl ?_ ?_
      · refine Z.weak ?_ (t_L_law_J163 u0 hu0 _ _ _ _ hc213 _)
        exact wkL_c (wkL_c (wkL_n (wkL_c (wkL_c (wkL_c (wkL_n (wkL_n (wkL_n (wkL_n (wkL_nil _))))))))))
      · refine z_iconst rfl rfl ?_
        refine z_goto rfl ?_
        refine Z.weak ?_ (t_L_law_J164 u0 hu0 _ _ _ _ _ hc213 _)
        exact wkL_c (wkL_c (wkL_n (wkL_c (wkL_c (wkL_c (wkL_n (wkL_n (wkL_n (wkL_n (wkL_nil _))))))))))
set_option maxRecDepth 20000 in
set_option maxHeartbeats 1000000 in
theorem t_L_law_J129 (u0 : Nat) (hu0 : u0 + 6 ≤ 600) (c213 : Int → Hp → Option (Int × Hp)) (x3 : Int) (x4 : Int) (x5 : Int) (x6 : Int) (x7 : Int64) (x9 : Int) (s0 : Int) (hc213 : ∀ (y2 : Int) (h : Hp), Z M_L_law (u0 + 6) 0 213 [some (vr 99), some (vr 0), some (vi y2), some (vi x3), none, none, none, none, none, none] [] h (c213 y2 h)) (h : Hp) : Z M_L_law (u0 + 0) 0 129 [some (vr 99), some (vr 0), none, some (vi x3), some (vi x4), some (vi x5), some (vi x6), some (vx (.long x7)), none, some (vi x9)] [vi s0] h (f_L_law_J129 u0 c213 x3 x4 x5 x6 x7 x9 s0 h) := by
  unfold f_L_law_J129
  refine z_istore_n rfl rfl ?_
  refine z_iload_n rfl rfl ?_
  refine z_if_eq rfl ?_ ?_
  · refine Z.weak ?_ (t_L_law_J165 u0 hu0 _ _ _ _ _ hc213 _)
    exact wkL_c (wkL_c (wkL_c (wkL_c (wkL_c (wkL_c (wkL_n (wkL_n (wkL_n (wkL_n (wkL_nil _))))))))))
  · refine z_iload_n rfl rfl ?_
    refine z_iconst rfl rfl ?_
    refine z_icmp_le rfl ?_ ?_
    · refine Z.weak ?_ (t_L_law_J165 u0 hu0 _ _ _ _ _ hc213 _)
      exact wkL_c (wkL_c (wkL_c (wkL_c (wkL_c (wkL_c (wkL_n (wkL_n (wkL_n (wkL_n (wkL_nil _))))))))))
    · refine z_iload rfl rfl ?_
      refine z_iconst rfl rfl ?_
      refine z_ishr rfl ?_
      refine z_iconst rfl rfl ?_
      refine z_S2i ms_L_10 (t_L_low _ _ _) rfl rfl rfl (lowL (b := 0) rfl rfl (by omega)) rfl (fun r15 h15 => ?_)
      refine Z.cast (u2 := (u0 + 0)) rfl ?_
      refine z_if_ne rfl ?_ ?_
      · refine Z.weak ?_ (t_L_law_J165 u0 hu0 _ _ _ _ _ hc213 _)
        exact wkL_c (wkL_c (wkL_c (wkL_c (wkL_c (wkL_c (wkL_n (wkL_n (wkL_n (wkL_n (wkL_nil _))))))))))
      · refine z_aload_n rfl rfl ?_
        refine z_V0i ko4 mv_L_99 kd_0 (t_X4_undo  _) rfl rfl rfl rfl (lowL (b := 0) rfl rfl (by omega)) rfl (fun r16 h16 => ?_)
        refine Z.cast (u2 := (u0 + 0)) rfl ?_
        refine z_iload rfl rfl ?_
        refine z_iconst rfl rfl ?_
        refine z_icmp_ge rfl ?_ ?_
        · refine z_iconst rfl rfl ?_
          refine Z.weak ?_ (t_L_law_J149 u0 hu0 _ _ _ _ _ _ _ _ hc213 _)
          exact wkL_c (wkL_c (wkL_n (wkL_c (wkL_c (wkL_c (wkL_n (wkL_c (wkL_n (wkL_c (wkL_nil _))))))))))
        · refine z_iload rfl rfl ?_
          refine z_goto rfl ?_
          refine Z.weak ?_ (t_L_law_J149 u0 hu0 _ _ _ _ _ _ _ _ hc213 _)
          exact wkL_c (wkL_c (wkL_n (wkL_c (wkL_c (wkL_c (wkL_n (wkL_c (wkL_n (wkL_c (wkL_nil _))))))))))
set_option maxRecDepth 20000 in
set_option maxHeartbeats 1000000 in
theorem t_L_law_J125 (u0 : Nat) (hu0 : u0 + 6 ≤ 600) (c213 : Int → Hp → Option (Int × Hp)) (x3 : Int) (x4 : Int) (x5 : Int) (x6 : Int) (x7 : Int64) (x9 : Int) (s0 : Int) (s1 : Int) (hc213 : ∀ (y2 : Int) (h : Hp), Z M_L_law (u0 + 6) 0 213 [some (vr 99), some (vr 0), some (vi y2), some (vi x3), none, none, none, none, none, none] [] h (c213 y2 h)) (h : Hp) : Z M_L_law (u0 + 0) 0 125 [some (vr 99), some (vr 0), none, some (vi x3), some (vi x4), some (vi x5), some (vi x6), some (vx (.long x7)), none, some (vi x9)] [vi s1, vi s0] h (f_L_law_J125 u0 c213 x3 x4 x5 x6 x7 x9 s0 s1 h) := by
  unfold f_L_law_J125
  refine z_icmp_ne rfl ?_ ?_
  · refine z_iconst rfl rfl ?_
    refine Z.weak ?_ (t_L_law_J129 u0 hu0 _ _ _ _ _ _ _ _ hc213 _)
    exact wkL_c (wkL_c (wkL_n (wkL_c (wkL_c (wkL_c (wkL_c (wkL_c (wkL_n (wkL_c (wkL_nil _))))))))))
  · refine z_iconst rfl rfl ?_
    refine z_goto rfl ?_
    refine Z.weak ?_ (t_L_law_J129 u0 hu0 _ _ _ _ _ _ _ _ hc213 _)
    exact wkL_c (wkL_c (wkL_n (wkL_c (wkL_c (wkL_c (wkL_c (wkL_c (wkL_n (wkL_c (wkL_nil _))))))))))
set_option maxRecDepth 20000 in
set_option maxHeartbeats 1000000 in
theorem t_L_law_J112 (u0 : Nat) (hu0 : u0 + 6 ≤ 600) (c213 : Int → Hp → Option (Int × Hp)) (x3 : Int) (x4 : Int) (x5 : Int) (s0 : Int) (hc213 : ∀ (y2 : Int) (h : Hp), Z M_L_law (u0 + 6) 0 213 [some (vr 99), some (vr 0), some (vi y2), some (vi x3), none, none, none, none, none, none] [] h (c213 y2 h)) (h : Hp) : Z M_L_law (u0 + 0) 0 112 [some (vr 99), some (vr 0), none, some (vi x3), some (vi x4), some (vi x5), none, none, none, none] [vi s0] h (f_L_law_J112 u0 c213 x3 x4 x5 s0 h) := by
  unfold f_L_law_J112
  refine z_istore_n rfl rfl ?_
  refine z_goto rfl ?_
  refine Z.weak ?_ (t_L_law_J165 u0 hu0 _ _ _ _ _ hc213 _)
  exact wkL_c (wkL_c (wkL_c (wkL_c (wkL_c (wkL_c (wkL_n (wkL_n (wkL_n (wkL_n (wkL_nil _))))))))))
set_option maxRecDepth 20000 in
set_option maxHeartbeats 1000000 in
theorem t_L_law_J111 (u0 : Nat) (hu0 : u0 + 6 ≤ 600) (c213 : Int → Hp → Option (Int × Hp)) (x3 : Int) (x4 : Int) (x5 : Int) (hc213 : ∀ (y2 : Int) (h : Hp), Z M_L_law (u0 + 6) 0 213 [some (vr 99), some (vr 0), some (vi y2), some (vi x3), none, none, none, none, none, none] [] h (c213 y2 h)) (h : Hp) : Z M_L_law (u0 + 0) 0 111 [some (vr 99), some (vr 0), none, some (vi x3), some (vi x4), some (vi x5), none, none, none, none] [] h (f_L_law_J111 u0 c213 x3 x4 x5 h) := by
  unfold f_L_law_J111
  refine z_iconst rfl rfl ?_
  refine Z.weak ?_ (t_L_law_J112 u0 hu0 _ _ _ _ _ hc213 _)
  exact wkL_c (wkL_c (wkL_n (wkL_c (wkL_c (wkL_c (wkL_n (wkL_n (wkL_n (wkL_n (wkL_nil _))))))))))
set_option maxRecDepth 20000 in
set_option maxHeartbeats 1000000 in
theorem t_L_law_J96 (u0 : Nat) (hu0 : u0 + 6 ≤ 600) (c213 : Int → Hp → Option (Int × Hp)) (x3 : Int) (x4 : Int) (x5 : Int) (x6 : Int) (x7 : Int64) (s0 : Int) (hc213 : ∀ (y2 : Int) (h : Hp), Z M_L_law (u0 + 6) 0 213 [some (vr 99), some (vr 0), some (vi y2), some (vi x3), none, none, none, none, none, none] [] h (c213 y2 h)) (h : Hp) : Z M_L_law (u0 + 0) 0 96 [some (vr 99), some (vr 0), none, some (vi x3), some (vi x4), some (vi x5), some (vi x6), some (vx (.long x7)), none, none] [vi s0] h (f_L_law_J96 u0 c213 x3 x4 x5 x6 x7 s0 h) := by
  unfold f_L_law_J96
  refine z_istore rfl rfl ?_
  refine z_iload rfl rfl ?_
  refine z_if_ge rfl ?_ ?_
  · refine z_aload_n rfl rfl ?_
    refine z_bipush rfl rfl ?_
    refine z_V1i ko4 mv_L_47 kd_0 (t_X4_count _ _) rfl rfl rfl rfl (lowL (b := 0) rfl rfl (by omega)) rfl (fun r5 h5 => ?_)
    refine Z.cast (u2 := (u0 + 0)) rfl ?_
    refine z_iload rfl rfl ?_
    refine z_iconst rfl rfl ?_
    refine z_icmp_ge rfl ?_ ?_
    · refine z_iconst rfl rfl ?_
      refine Z.weak ?_ (t_L_law_J125 u0 hu0 _ _ _ _ _ _ _ _ _ hc213 _)
      exact wkL_c (wkL_c (wkL_n (wkL_c (wkL_c (wkL_c (wkL_c (wkL_c (wkL_n (wkL_c (wkL_nil _))))))))))
    · refine z_iload rfl rfl ?_
      refine z_iconst rfl rfl ?_
      refine z_iadd rfl ?_
      refine z_goto rfl ?_
      refine Z.weak ?_ (t_L_law_J125 u0 hu0 _ _ _ _ _ _ _ _ _ hc213 _)
      exact wkL_c (wkL_c (wkL_n (wkL_c (wkL_c (wkL_c (wkL_c (wkL_c (wkL_n (wkL_c (wkL_nil _))))))))))
  · refine z_aload_n rfl rfl ?_
    refine z_bipush rfl rfl ?_
    refine z_V1i ko4 mv_L_47 kd_0 (t_X4_count _ _) rfl rfl rfl rfl (lowL (b := 0) rfl rfl (by omega)) rfl (fun r19 h19 => ?_)
    refine Z.cast (u2 := (u0 + 0)) rfl ?_
    refine z_iload rfl rfl ?_
    refine z_icmp_ne rfl ?_ ?_
    · refine Z.weak ?_ (t_L_law_J111 u0 hu0 _ _ _ _ hc213 _)
      exact wkL_c (wkL_c (wkL_n (wkL_c (wkL_c (wkL_c (wkL_n (wkL_n (wkL_n (wkL_n (wkL_nil _))))))))))
    · refine z_aload_n rfl rfl ?_
      refine z_S1l ms_L_91 (t_L_print  _) rfl rfl rfl (lowL (b := 0) rfl rfl (by omega)) rfl (fun r20 h20 => ?_)
      refine Z.cast (u2 := (u0 + 0)) rfl ?_
      refine z_lload rfl rfl ?_
      refine z_lcmp rfl ?_
      refine z_if_ne rfl ?_ ?_
      · refine Z.weak ?_ (t_L_law_J111 u0 hu0 _ _ _ _ hc213 _)
        exact wkL_c (wkL_c (wkL_n (wkL_c (wkL_c (wkL_c (wkL_n (wkL_n (wkL_n (wkL_n (wkL_nil _))))))))))
      · refine z_iconst rfl rfl ?_
        refine z_goto rfl ?_
        refine Z.weak ?_ (t_L_law_J112 u0 hu0 _ _ _ _ _ hc213 _)
        exact wkL_c (wkL_c (wkL_n (wkL_c (wkL_c (wkL_c (wkL_n (wkL_n (wkL_n (wkL_n (wkL_nil _))))))))))
set_option maxRecDepth 20000 in
set_option maxHeartbeats 1000000 in
theorem t_L_law_J35 (u0 : Nat) (hu0 : u0 + 6 ≤ 600) (c213 : Int → Hp → Option (Int × Hp)) (x3 : Int) (x4 : Int) (x5 : Int) (hc213 : ∀ (y2 : Int) (h : Hp), Z M_L_law (u0 + 6) 0 213 [some (vr 99), some (vr 0), some (vi y2), some (vi x3), none, none, none, none, none, none] [] h (c213 y2 h)) (h : Hp) : Z M_L_law (u0 + 0) 0 35 [some (vr 99), some (vr 0), none, some (vi x3), some (vi x4), some (vi x5), none, none, none, none] [] h (f_L_law_J35 u0 c213 x3 x4 x5 h) := by
  unfold f_L_law_J35
  refine z_aload_n rfl rfl ?_
  refine z_bipush rfl rfl ?_
  refine z_V1i ko4 mv_L_47 kd_0 (t_X4_count _ _) rfl rfl rfl rfl (lowL (b := 0) rfl rfl (by omega)) rfl (fun r1 h1 => ?_)
  refine Z.cast (u2 := (u0 + 0)) rfl ?_
  refine z_istore rfl rfl ?_
  refine z_aload_n rfl rfl ?_
  refine z_S1l ms_L_91 (t_L_print  _) rfl rfl rfl (lowL (b := 0) rfl rfl (by omega)) rfl (fun r2 h2 => ?_)
  refine Z.cast (u2 := (u0 + 0)) rfl ?_
  refine z_lstoreL rfl rfl (fun y3 => ?_)
  refine z_iload_n rfl rfl ?_
  refine z_iconst rfl rfl ?_
  refine z_icmp_ge rfl ?_ ?_
  · refine z_iload_n rfl rfl ?_
    refine z_bipush rfl rfl ?_
    refine z_icmp_ge rfl ?_ ?_
    · refine z_aload_n rfl rfl ?_
      refine z_iload rfl rfl ?_
      refine z_iload rfl rfl ?_
      refine z_S3i ms_L_114 (t_L_act _ _ _) rfl rfl rfl (lowL (b := 0) rfl rfl (by omega)) rfl (fun r4 h4 => ?_)
      refine Z.cast (u2 := (u0 + 0)) rfl ?_
      refine Z.weak ?_ (t_L_law_J96 u0 hu0 _ _ _ _ _ _ _ hc213 _)
      exact wkL_c (wkL_c (wkL_n (wkL_c (wkL_c (wkL_c (wkL_c (wkL_c (wkL_n (wkL_n (wkL_nil _))))))))))
    · refine z_aload_n rfl rfl ?_
      refine z_iload rfl rfl ?_
      refine z_iconst rfl rfl ?_
      refine z_S2i ms_L_10 (t_L_low _ _ _) rfl rfl rfl (lowL (b := 0) rfl rfl (by omega)) rfl (fun r21 h21 => ?_)
      refine Z.cast (u2 := (u0 + 0)) rfl ?_
      refine z_iconst rfl rfl ?_
      refine z_isub rfl ?_
      refine z_iload rfl rfl ?_
      refine z_iconst rfl rfl ?_
      refine z_ishr rfl ?_
      refine z_iconst rfl rfl ?_
      refine z_S2i ms_L_10 (t_L_low _ _ _) rfl rfl rfl (lowL (b := 0) rfl rfl (by omega)) rfl (fun r22 h22 => ?_)
      refine Z.cast (u2 := (u0 + 0)) rfl ?_
      refine z_iconst rfl rfl ?_
      refine z_isub rfl ?_
      refine z_iload rfl rfl ?_
      refine z_iconst rfl rfl ?_
      refine z_S2i ms_L_10 (t_L_low _ _ _) rfl rfl rfl (lowL (b := 0) rfl rfl (by omega)) rfl (fun r23 h23 => ?_)
      refine Z.cast (u2 := (u0 + 0)) rfl ?_
      refine z_iload rfl rfl ?_
      refine z_iconst rfl rfl ?_
      refine z_ishr rfl ?_
      refine z_iconst rfl rfl ?_
      refine z_S2i ms_L_10 (t_L_low _ _ _) rfl rfl rfl (lowL (b := 0) rfl rfl (by omega)) rfl (fun r24 h24 => ?_)
      refine Z.cast (u2 := (u0 + 0)) rfl ?_
      refine z_iconst rfl rfl ?_
      refine z_isub rfl ?_
      refine z_V4i ko4 mv_L_22 kd_0 (t_X4_claim _ _ _ _ _) rfl rfl rfl rfl (lowL (b := 0) rfl rfl (by omega)) rfl (fun r25 h25 => ?_)
      refine Z.cast (u2 := (u0 + 0)) rfl ?_
      refine z_goto rfl ?_
      refine Z.weak ?_ (t_L_law_J96 u0 hu0 _ _ _ _ _ _ _ hc213 _)
      exact wkL_c (wkL_c (wkL_n (wkL_c (wkL_c (wkL_c (wkL_c (wkL_c (wkL_n (wkL_n (wkL_nil _))))))))))
  · refine z_aload_n rfl rfl ?_
    refine z_iload rfl rfl ?_
    refine z_iconst rfl rfl ?_
    refine z_S2i ms_L_10 (t_L_low _ _ _) rfl rfl rfl (lowL (b := 0) rfl rfl (by omega)) rfl (fun r26 h26 => ?_)
    refine Z.cast (u2 := (u0 + 0)) rfl ?_
    refine z_iload rfl rfl ?_
    refine z_iconst rfl rfl ?_
    refine z_ishr rfl ?_
    refine z_iconst rfl rfl ?_
    refine z_S2i ms_L_10 (t_L_low _ _ _) rfl rfl rfl (lowL (b := 0) rfl rfl (by omega)) rfl (fun r27 h27 => ?_)
    refine Z.cast (u2 := (u0 + 0)) rfl ?_
    refine z_iload rfl rfl ?_
    refine z_iconst rfl rfl ?_
    refine z_S2i ms_L_10 (t_L_low _ _ _) rfl rfl rfl (lowL (b := 0) rfl rfl (by omega)) rfl (fun r28 h28 => ?_)
    refine Z.cast (u2 := (u0 + 0)) rfl ?_
    refine z_iload rfl rfl ?_
    refine z_iconst rfl rfl ?_
    refine z_ishr rfl ?_
    refine z_iconst rfl rfl ?_
    refine z_S2i ms_L_10 (t_L_low _ _ _) rfl rfl rfl (lowL (b := 0) rfl rfl (by omega)) rfl (fun r29 h29 => ?_)
    refine Z.cast (u2 := (u0 + 0)) rfl ?_
    refine z_V4i ko4 mv_L_16 kd_0 (t_X4_find _ _ _ _ _) rfl rfl rfl rfl (lowL (b := 0) rfl rfl (by omega)) rfl (fun r30 h30 => ?_)
    refine Z.cast (u2 := (u0 + 0)) rfl ?_
    refine z_goto rfl ?_
    refine Z.weak ?_ (t_L_law_J96 u0 hu0 _ _ _ _ _ _ _ hc213 _)
    exact wkL_c (wkL_c (wkL_n (wkL_c (wkL_c (wkL_c (wkL_c (wkL_c (wkL_n (wkL_n (wkL_nil _))))))))))
