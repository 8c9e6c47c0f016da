/-! printed by wip/gen/gen26.py: the bytecode does what the functions say -/
set_option maxRecDepth 20000 in
set_option maxHeartbeats 1000000 in
theorem t_L_low (x0 : Int) (x1 : Int) (h : Hp) : Ct M_L_low [vi x0, vi x1] h (f_L_low x0 x1 h) := by
  refine Ct.mk ok_L_low pl_L_low rfl rfl ?_
  show Z M_L_low 0 0 0 [some (vi x0), some (vi x1)] [] h (f_L_low x0 x1 h)
  unfold f_L_low
  refine z_iload_n rfl rfl ?_
  refine z_ldc rfl cst_L_9 rfl ?_
  refine z_iand rfl ?_
  refine z_iload_n rfl rfl ?_
  refine z_iremG rfl ?_
  exact z_ireturn rfl rfl
set_option maxRecDepth 20000 in
set_option maxHeartbeats 1000000 in
theorem t_L_act_J14 (x2 : Int) (x3 : Int) (h : Hp) : Z M_L_act 0 0 14 [some (vr 0), none, some (vi x2), some (vi x3), none] [] h (f_L_act_J14 x2 x3 h) := by
  unfold f_L_act_J14
  refine z_aload_n rfl rfl ?_
  refine z_iload_n rfl rfl ?_
  refine z_iload_n rfl rfl ?_
  refine z_S2i ms_L_10 (t_L_low _ _ _) rfl rfl rfl rfl rfl (fun r3 h3 => ?_)
  refine z_iload_n rfl rfl ?_
  refine z_iconst rfl rfl ?_
  refine z_ishr rfl ?_
  refine z_iload_n rfl rfl ?_
  refine z_S2i ms_L_10 (t_L_low _ _ _) rfl rfl rfl rfl rfl (fun r4 h4 => ?_)
  refine z_iload_n rfl rfl ?_
  refine z_bipush rfl rfl ?_
  refine z_ishr rfl ?_
  refine z_iload_n rfl rfl ?_
  refine z_S2i ms_L_10 (t_L_low _ _ _) rfl rfl rfl rfl rfl (fun r5 h5 => ?_)
  refine z_iload_n rfl rfl ?_
  refine z_bipush rfl rfl ?_
  refine z_ishr rfl ?_
  refine z_iload_n rfl rfl ?_
  refine z_S2i ms_L_10 (t_L_low _ _ _) rfl rfl rfl rfl rfl (fun r6 h6 => ?_)
  refine z_V4i ko4 mv_L_16 kd_0 (t_X4_find _ _ _ _ _) rfl rfl rfl rfl rfl rfl (fun r7 h7 => ?_)
  exact z_ireturn rfl rfl
set_option maxRecDepth 20000 in
set_option maxHeartbeats 1000000 in
theorem t_L_act_J35 (x2 : Int) (x3 : Int) (h : Hp) : Z M_L_act 0 0 35 [some (vr 0), none, some (vi x2), some (vi x3), none] [] h (f_L_act_J35 x2 x3 h) := by
  unfold f_L_act_J35
  refine z_aload_n rfl rfl ?_
  refine z_iload_n rfl rfl ?_
  refine z_iload_n rfl rfl ?_
  refine z_iconst rfl rfl ?_
  refine z_iadd rfl ?_
  refine z_S2i ms_L_10 (t_L_low _ _ _) rfl rfl rfl rfl rfl (fun r12 h12 => ?_)
  refine z_iconst rfl rfl ?_
  refine z_isub rfl ?_
  refine z_iload_n rfl rfl ?_
  refine z_iconst rfl rfl ?_
  refine z_ishr rfl ?_
  refine z_iload_n rfl rfl ?_
  refine z_iconst rfl rfl ?_
  refine z_iadd rfl ?_
  refine z_S2i ms_L_10 (t_L_low _ _ _) rfl rfl rfl rfl rfl (fun r13 h13 => ?_)
  refine z_iconst rfl rfl ?_
  refine z_isub rfl ?_
  refine z_iload_n rfl rfl ?_
  refine z_bipush rfl rfl ?_
  refine z_ishr rfl ?_
  refine z_iload_n rfl rfl ?_
  refine z_iconst rfl rfl ?_
  refine z_iadd rfl ?_
  refine z_S2i ms_L_10 (t_L_low _ _ _) rfl rfl rfl rfl rfl (fun r14 h14 => ?_)
  refine z_iconst rfl rfl ?_
  refine z_isub rfl ?_
  refine z_iload_n rfl rfl ?_
  refine z_bipush rfl rfl ?_
  refine z_ishr rfl ?_
  refine z_iload_n rfl rfl ?_
  refine z_iconst rfl rfl ?_
  refine z_iadd rfl ?_
  refine z_S2i ms_L_10 (t_L_low _ _ _) rfl rfl rfl rfl rfl (fun r15 h15 => ?_)
  refine z_iconst rfl rfl ?_
  refine z_isub rfl ?_
  refine z_V4i ko4 mv_L_22 kd_0 (t_X4_claim _ _ _ _ _) rfl rfl rfl rfl rfl rfl (fun r16 h16 => ?_)
  exact z_ireturn rfl rfl
set_option maxRecDepth 20000 in
set_option maxHeartbeats 1000000 in
theorem t_L_act_J72 (x1 : Int) (x2 : Int) (x3 : Int) (h : Hp) : Z M_L_act 0 0 72 [some (vr 0), some (vi x1), some (vi x2), some (vi x3), none] [] h (f_L_act_J72 x1 x2 x3 h) := by
  unfold f_L_act_J72
  refine z_aload_n rfl rfl ?_
  refine z_iload_n rfl rfl ?_
  refine z_iconst rfl rfl ?_
  refine z_ishr rfl ?_
  refine z_bipush rfl rfl ?_
  refine z_S2i ms_L_10 (t_L_low _ _ _) rfl rfl rfl rfl rfl (fun r21 h21 => ?_)
  refine z_iload_n rfl rfl ?_
  refine z_iconst rfl rfl ?_
  refine z_S2i ms_L_10 (t_L_low _ _ _) rfl rfl rfl rfl rfl (fun r22 h22 => ?_)
  refine z_iload_n rfl rfl ?_
  refine z_iconst rfl rfl ?_
  refine z_ishr rfl ?_
  refine z_iload_n rfl rfl ?_
  refine z_S2i ms_L_10 (t_L_low _ _ _) rfl rfl rfl rfl rfl (fun r23 h23 => ?_)
  refine z_V3i ko4 mv_L_25 kd_0 (t_X4_tell _ _ _ _) rfl rfl rfl rfl rfl rfl (fun r24 h24 => ?_)
  exact z_ireturn rfl rfl
set_option maxRecDepth 20000 in
set_option maxHeartbeats 1000000 in
theorem t_L_act_J118 (s1 : Int) (s2 : Int) (s3 : Int) (h : Hp) : Z M_L_act 0 0 118 [none, none, none, none, none] [vi s3, vi s2, vi s1, vr 0] h (f_L_act_J118 s1 s2 s3 h) := by
  unfold f_L_act_J118
  refine z_S2i ms_L_10 (t_L_low _ _ _) rfl rfl rfl rfl rfl (fun r35 h35 => ?_)
  refine z_iadd rfl ?_
  refine z_V1i ko4 mv_L_37 kd_0 (t_X4_weeks _ _) rfl rfl rfl rfl rfl rfl (fun r36 h36 => ?_)
  exact z_ireturn rfl rfl
set_option maxRecDepth 20000 in
set_option maxHeartbeats 1000000 in
theorem t_L_act_J106 (x2 : Int) (h : Hp) : Z M_L_act 0 0 106 [some (vr 0), none, some (vi x2), none, none] [] h (f_L_act_J106 x2 h) := by
  unfold f_L_act_J106
  refine z_aload_n rfl rfl ?_
  refine z_iconst rfl rfl ?_
  refine z_iload_n rfl rfl ?_
  refine z_iload_n rfl rfl ?_
  refine z_bipush rfl rfl ?_
  refine z_ishr rfl ?_
  refine z_iconst rfl rfl ?_
  refine z_S2i ms_L_10 (t_L_low _ _ _) rfl rfl rfl rfl rfl (fun r34 h34 => ?_)
  refine z_if_ne rfl ?_ ?_
  · refine z_iconst rfl rfl ?_
    refine Z.weak ?_ (t_L_act_J118  _ _ _  _)
    exact wkL_n (wkL_n (wkL_n (wkL_n (wkL_n (wkL_nil _)))))
  · refine z_bipush rfl rfl ?_
    refine z_goto rfl ?_
    refine Z.weak ?_ (t_L_act_J118  _ _ _  _)
    exact wkL_n (wkL_n (wkL_n (wkL_n (wkL_n (wkL_nil _)))))
set_option maxRecDepth 20000 in
set_option maxHeartbeats 1000000 in
theorem t_L_act_J135 (s1 : Int) (s2 : Int) (s3 : Int) (s4 : Int) (h : Hp) : Z M_L_act 0 0 135 [none, none, none, none, none] [vi s4, vi s3, vi s2, vi s1, vr 0] h (f_L_act_J135 s1 s2 s3 s4 h) := by
  unfold f_L_act_J135
  refine z_S2i ms_L_10 (t_L_low _ _ _) rfl rfl rfl rfl rfl (fun r40 h40 => ?_)
  refine z_iadd rfl ?_
  refine z_V2i ko4 mv_L_40 kd_0 (t_X4_set _ _ _) rfl rfl rfl rfl rfl rfl (fun r41 h41 => ?_)
  exact z_ireturn rfl rfl
set_option maxRecDepth 20000 in
set_option maxHeartbeats 1000000 in
theorem t_L_act_J9 (x1 : Int) (x2 : Int) (s0 : Int) (h : Hp) : Z M_L_act 0 0 9 [some (vr 0), some (vi x1), some (vi x2), none, none] [vi s0] h (f_L_act_J9 x1 x2 s0 h) := by
  unfold f_L_act_J9
  refine z_istore_n rfl rfl ?_
  refine z_iload_n rfl rfl ?_
  refine z_bipush rfl rfl ?_
  refine z_S2i ms_L_10 (t_L_low _ _ _) rfl rfl rfl rfl rfl (fun r2 h2 => ?_)
  refine Z.ite (fun e8 => ?_) (fun e8 => ?_)
  · refine z_table (tg := 14) rfl (o := 76) (by rw [e8]; rfl) rfl ?_
    refine Z.weak ?_ (t_L_act_J14  _ _  _)
    exact wkL_c (wkL_n (wkL_c (wkL_c (wkL_n (wkL_nil _)))))
  refine Z.ite (fun e9 => ?_) (fun e9 => ?_)
  · refine z_table (tg := 14) rfl (o := 76) (by rw [e9]; rfl) rfl ?_
    refine Z.weak ?_ (t_L_act_J14  _ _  _)
    exact wkL_c (wkL_n (wkL_c (wkL_c (wkL_n (wkL_nil _)))))
  refine Z.ite (fun e10 => ?_) (fun e10 => ?_)
  · refine z_table (tg := 14) rfl (o := 76) (by rw [e10]; rfl) rfl ?_
    refine Z.weak ?_ (t_L_act_J14  _ _  _)
    exact wkL_c (wkL_n (wkL_c (wkL_c (wkL_n (wkL_nil _)))))
  refine Z.ite (fun e11 => ?_) (fun e11 => ?_)
  · refine z_table (tg := 14) rfl (o := 76) (by rw [e11]; rfl) rfl ?_
    refine Z.weak ?_ (t_L_act_J14  _ _  _)
    exact wkL_c (wkL_n (wkL_c (wkL_c (wkL_n (wkL_nil _)))))
  refine Z.ite (fun e17 => ?_) (fun e17 => ?_)
  · refine z_table (tg := 35) rfl (o := 109) (by rw [e17]; rfl) rfl ?_
    refine Z.weak ?_ (t_L_act_J35  _ _  _)
    exact wkL_c (wkL_n (wkL_c (wkL_c (wkL_n (wkL_nil _)))))
  refine Z.ite (fun e18 => ?_) (fun e18 => ?_)
  · refine z_table (tg := 35) rfl (o := 109) (by rw [e18]; rfl) rfl ?_
    refine Z.weak ?_ (t_L_act_J35  _ _  _)
    exact wkL_c (wkL_n (wkL_c (wkL_c (wkL_n (wkL_nil _)))))
  refine Z.ite (fun e19 => ?_) (fun e19 => ?_)
  · refine z_table (tg := 35) rfl (o := 109) (by rw [e19]; rfl) rfl ?_
    refine Z.weak ?_ (t_L_act_J35  _ _  _)
    exact wkL_c (wkL_n (wkL_c (wkL_c (wkL_n (wkL_nil _)))))
  refine Z.ite (fun e20 => ?_) (fun e20 => ?_)
  · refine z_table (tg := 35) rfl (o := 109) (by rw [e20]; rfl) rfl ?_
    refine Z.weak ?_ (t_L_act_J35  _ _  _)
    exact wkL_c (wkL_n (wkL_c (wkL_c (wkL_n (wkL_nil _)))))
  refine Z.ite (fun e25 => ?_) (fun e25 => ?_)
  · refine z_table (tg := 72) rfl (o := 158) (by rw [e25]; rfl) rfl ?_
    refine Z.weak ?_ (t_L_act_J72  _ _ _  _)
    exact wkL_c (wkL_c (wkL_c (wkL_c (wkL_n (wkL_nil _)))))
  refine Z.ite (fun e26 => ?_) (fun e26 => ?_)
  · refine z_table (tg := 72) rfl (o := 158) (by rw [e26]; rfl) rfl ?_
    refine Z.weak ?_ (t_L_act_J72  _ _ _  _)
    exact wkL_c (wkL_c (wkL_c (wkL_c (wkL_n (wkL_nil _)))))
  refine Z.ite (fun e31 => ?_) (fun e31 => ?_)
  · refine z_table (tg := 88) rfl (o := 183) (by rw [e31]; rfl) rfl ?_
    refine z_iload_n rfl rfl ?_
    refine z_iconst rfl rfl ?_
    refine z_S2i ms_L_10 (t_L_low _ _ _) rfl rfl rfl rfl rfl (fun r27 h27 => ?_)
    refine z_if_ne rfl ?_ ?_
    · refine z_aload_n rfl rfl ?_
      refine z_V0i ko4 mv_L_33 kd_0 (t_X4_hand  _) rfl rfl rfl rfl rfl rfl (fun r28 h28 => ?_)
      exact z_ireturn rfl rfl
    · refine z_aload_n rfl rfl ?_
      refine z_iload_n rfl rfl ?_
      refine z_iconst rfl rfl ?_
      refine z_ishr rfl ?_
      refine z_bipush rfl rfl ?_
      refine z_S2i ms_L_10 (t_L_low _ _ _) rfl rfl rfl rfl rfl (fun r29 h29 => ?_)
      refine z_V1i ko4 mv_L_29 kd_0 (t_X4_drop _ _) rfl rfl rfl rfl rfl rfl (fun r30 h30 => ?_)
      refine z_goto rfl ?_
      exact z_ireturn rfl rfl
  refine Z.ite (fun e33 => ?_) (fun e33 => ?_)
  · refine z_table (tg := 103) rfl (o := 211) (by rw [e33]; rfl) rfl ?_
    refine z_aload_n rfl rfl ?_
    refine z_V0i ko4 mv_L_33 kd_0 (t_X4_hand  _) rfl rfl rfl rfl rfl rfl (fun r32 h32 => ?_)
    exact z_ireturn rfl rfl
  refine Z.ite (fun e37 => ?_) (fun e37 => ?_)
  · refine z_table (tg := 106) rfl (o := 216) (by rw [e37]; rfl) rfl ?_
    refine Z.weak ?_ (t_L_act_J106  _  _)
    exact wkL_c (wkL_n (wkL_c (wkL_n (wkL_n (wkL_nil _)))))
  refine Z.ite (fun e38 => ?_) (fun e38 => ?_)
  · refine z_table (tg := 106) rfl (o := 216) (by rw [e38]; rfl) rfl ?_
    refine Z.weak ?_ (t_L_act_J106  _  _)
    exact wkL_c (wkL_n (wkL_c (wkL_n (wkL_n (wkL_nil _)))))
  refine Z.ite (fun e42 => ?_) (fun e42 => ?_)
  · refine z_table (tg := 122) rfl (o := 244) (by rw [e42]; rfl) rfl ?_
    refine z_aload_n rfl rfl ?_
    refine z_iconst rfl rfl ?_
    refine z_iconst rfl rfl ?_
    refine z_iload_n rfl rfl ?_
    refine z_iload_n rfl rfl ?_
    refine z_bipush rfl rfl ?_
    refine z_ishr rfl ?_
    refine z_iconst rfl rfl ?_
    refine z_S2i ms_L_10 (t_L_low _ _ _) rfl rfl rfl rfl rfl (fun r39 h39 => ?_)
    refine z_if_ne rfl ?_ ?_
    · refine z_bipush rfl rfl ?_
      refine Z.weak ?_ (t_L_act_J135  _ _ _ _  _)
      exact wkL_n (wkL_n (wkL_n (wkL_n (wkL_n (wkL_nil _)))))
    · refine z_bipush rfl rfl ?_
      refine z_goto rfl ?_
      refine Z.weak ?_ (t_L_act_J135  _ _ _ _  _)
      exact wkL_n (wkL_n (wkL_n (wkL_n (wkL_n (wkL_nil _)))))
  refine z_table (tg := 139) rfl (o := 274) (if_pos (by omega)) rfl ?_
  refine z_iload_n rfl rfl ?_
  refine z_iconst rfl rfl ?_
  refine z_ishr rfl ?_
  refine z_bipush rfl rfl ?_
  refine z_S2i ms_L_10 (t_L_low _ _ _) rfl rfl rfl rfl rfl (fun r43 h43 => ?_)
  refine z_istore rfl rfl ?_
  refine z_aload_n rfl rfl ?_
  refine z_iload rfl rfl ?_
  refine z_iload rfl rfl ?_
  refine z_if_ne rfl ?_ ?_
  · refine z_iload rfl rfl ?_
    refine z_iconst rfl rfl ?_
    refine z_icmp_ne rfl ?_ ?_
    · refine z_iconst rfl rfl ?_
      refine z_iload_n rfl rfl ?_
      refine z_bipush rfl rfl ?_
      refine z_S2i ms_L_10 (t_L_low _ _ _) rfl rfl rfl rfl rfl (fun r44 h44 => ?_)
      refine z_iadd rfl ?_
      refine z_V2i ko4 mv_L_40 kd_0 (t_X4_set _ _ _) rfl rfl rfl rfl rfl rfl (fun r45 h45 => ?_)
      exact z_ireturn rfl rfl
    · refine z_iload_n rfl rfl ?_
      refine z_bipush rfl rfl ?_
      refine z_S2i ms_L_10 (t_L_low _ _ _) rfl rfl rfl rfl rfl (fun r46 h46 => ?_)
      refine z_goto rfl ?_
      refine z_V2i ko4 mv_L_40 kd_0 (t_X4_set _ _ _) rfl rfl rfl rfl rfl rfl (fun r47 h47 => ?_)
      exact z_ireturn rfl rfl
  · refine z_iload_n rfl rfl ?_
    refine z_iconst rfl rfl ?_
    refine z_S2i ms_L_10 (t_L_low _ _ _) rfl rfl rfl rfl rfl (fun r48 h48 => ?_)
    refine z_goto rfl ?_
    refine z_V2i ko4 mv_L_40 kd_0 (t_X4_set _ _ _) rfl rfl rfl rfl rfl rfl (fun r49 h49 => ?_)
    exact z_ireturn rfl rfl
set_option maxRecDepth 20000 in
set_option maxHeartbeats 1000000 in
theorem t_L_act (x1 : Int) (x2 : Int) (h : Hp) : Ct M_L_act [vr 0, vi x1, vi x2] h (f_L_act x1 x2 h) := by
  refine Ct.mk ok_L_act pl_L_act rfl rfl ?_
  show Z M_L_act 0 0 0 [some (vr 0), some (vi x1), some (vi x2), none, none] [] h (f_L_act x1 x2 h)
  unfold f_L_act
  refine z_iload_n rfl rfl ?_
  refine z_bipush rfl rfl ?_
  refine z_ishr rfl ?_
  refine z_iconst rfl rfl ?_
  refine z_S2i ms_L_10 (t_L_low _ _ _) rfl rfl rfl rfl rfl (fun r1 h1 => ?_)
  refine z_if_ne rfl ?_ ?_
  · refine z_iconst rfl rfl ?_
    refine Z.weak ?_ (t_L_act_J9  _ _ _  _)
    exact wkL_c (wkL_c (wkL_c (wkL_n (wkL_n (wkL_nil _)))))
  · refine z_bipush rfl rfl ?_
    refine z_goto rfl ?_
    refine Z.weak ?_ (t_L_act_J9  _ _ _  _)
    exact wkL_c (wkL_c (wkL_c (wkL_n (wkL_n (wkL_nil _)))))
set_option maxRecDepth 20000 in
set_option maxHeartbeats 1000000 in
theorem t_L_quotient_L2 (x0 : Int) (x1 : Int) (c11 : Int → Hp → Option (Int × Hp)) (hc11 : ∀ (y2 : Int) (h : Hp), Z M_L_quotient 0 0 11 [some (vi x0), some (vi x1), some (vi y2), none, none, none, none, none, none] [] h (c11 y2 h)) : ∀ (n : Nat) (x2 : Int) (h : Hp), Z M_L_quotient 0 0 2 [some (vi x0), some (vi x1), some (vi x2), none, none, none, none, none, none] [] h (f_L_quotient_L2 x0 x1 c11 n x2 h) := by
  intro n
  induction n with
  | zero => intro x2 h; exact Z.nix
  | succ n ih =>
    intro x2 h
    rw [f_L_quotient_L2_s]
    refine z_iload_n rfl rfl ?_
    refine z_iload_n rfl rfl ?_
    refine z_iload_n rfl rfl ?_
    refine z_iconst rfl rfl ?_
    refine z_iadd rfl ?_
    refine z_ishl rfl ?_
    refine z_icmp_lt rfl ?_ ?_
    · refine Z.weak ?_ (hc11 _ _)
      exact wkL_c (wkL_c (wkL_c (wkL_n (wkL_n (wkL_n (wkL_n (wkL_n (wkL_n (wkL_nil _)))))))))
    · refine z_iinc rfl rfl rfl ?_
      refine z_goto rfl ?_
      refine Z.weak ?_ (ih _ _)
      exact wkL_c (wkL_c (wkL_c (wkL_n (wkL_n (wkL_n (wkL_n (wkL_n (wkL_n (wkL_nil _)))))))))
set_option maxRecDepth 20000 in
set_option maxHeartbeats 1000000 in
theorem t_L_quotient_J52 (x2 : Int) (s0 : Int64) (s1 : Int64) (h : Hp) : Z M_L_quotient 0 0 52 [none, none, some (vi x2), none, none, none, none, none, none] [vx (.long s1), vx (.long s0)] h (f_L_quotient_J52 x2 s0 s1 h) := by
  unfold f_L_quotient_J52
  refine z_ladd rfl ?_
  refine z_lstoreL rfl rfl (fun y6 => ?_)
  refine z_bipush rfl rfl ?_
  refine z_iload_n rfl rfl ?_
  refine z_iadd rfl ?_
  refine z_bipush rfl rfl ?_
  refine z_ishl rfl ?_
  refine z_lload rfl rfl ?_
  refine z_ldc2 cst_L_45 rfl ?_
  refine z_lsub rfl ?_
  refine z_l2i rfl ?_
  refine z_iadd rfl ?_
  exact z_ireturn rfl rfl
set_option maxRecDepth 20000 in
set_option maxHeartbeats 1000000 in
theorem t_L_quotient_J49 (x2 : Int) (s0 : Int64) (h : Hp) : Z M_L_quotient 0 0 49 [none, none, some (vi x2), none, none, none, none, none, none] [vx (.long s0)] h (f_L_quotient_J49 x2 s0 h) := by
  unfold f_L_quotient_J49
  refine z_lconst rfl ?_
  refine z_goto rfl ?_
  refine Z.weak ?_ (t_L_quotient_J52  _ _ _  _)
  exact wkL_n (wkL_n (wkL_c (wkL_n (wkL_n (wkL_n (wkL_n (wkL_n (wkL_n (wkL_nil _)))))))))
set_option maxRecDepth 20000 in
set_option maxHeartbeats 1000000 in
theorem t_L_quotient_J51 (x2 : Int) (s0 : Int64) (h : Hp) : Z M_L_quotient 0 0 51 [none, none, some (vi x2), none, none, none, none, none, none] [vx (.long s0)] h (f_L_quotient_J51 x2 s0 h) := by
  unfold f_L_quotient_J51
  refine z_lconst rfl ?_
  refine Z.weak ?_ (t_L_quotient_J52  _ _ _  _)
  exact wkL_n (wkL_n (wkL_c (wkL_n (wkL_n (wkL_n (wkL_n (wkL_n (wkL_n (wkL_nil _)))))))))
set_option maxRecDepth 20000 in
set_option maxHeartbeats 1000000 in
theorem t_L_quotient (x0 : Int) (x1 : Int) (h : Hp) : Ct M_L_quotient [vi x0, vi x1] h (f_L_quotient x0 x1 h) := by
  refine Ct.mk ok_L_quotient pl_L_quotient rfl rfl ?_
  show Z M_L_quotient 0 0 0 [some (vi x0), some (vi x1), none, none, none, none, none, none, none] [] h (f_L_quotient x0 x1 h)
  unfold f_L_quotient
  refine z_iconst rfl rfl ?_
  refine z_istore_n rfl rfl ?_
  refine Z.weak ?_ (t_L_quotient_L2  _ _  _  ?_  fu _ _)
  · exact wkL_c (wkL_c (wkL_c (wkL_n (wkL_n (wkL_n (wkL_n (wkL_n (wkL_n (wkL_nil _)))))))))
  · intro y1 h2
    refine z_iload_n rfl rfl ?_
    refine z_i2l rfl ?_
    refine z_bipush rfl rfl ?_
    refine z_iload_n rfl rfl ?_
    refine z_isub rfl ?_
    refine z_lshl rfl ?_
    refine z_lstore_nL rfl rfl (fun y3 => ?_)
    refine z_lload_n rfl rfl ?_
    refine z_iload_n rfl rfl ?_
    refine z_i2l rfl ?_
    refine z_lrem rfl ?_
    refine z_lstoreL rfl rfl (fun y4 => ?_)
    refine z_lload_n rfl rfl ?_
    refine z_iload_n rfl rfl ?_
    refine z_i2l rfl ?_
    refine z_ldiv rfl ?_
    refine z_lstoreL rfl rfl (fun y5 => ?_)
    refine z_lload rfl rfl ?_
    refine z_ldc2 cst_L_43 rfl ?_
    refine z_lload rfl rfl ?_
    refine z_lmul rfl ?_
    refine z_iload_n rfl rfl ?_
    refine z_i2l rfl ?_
    refine z_lcmp rfl ?_
    refine z_if_gt rfl ?_ ?_
    · refine Z.weak ?_ (t_L_quotient_J49  _ _  _)
      exact wkL_n (wkL_n (wkL_c (wkL_n (wkL_n (wkL_n (wkL_n (wkL_n (wkL_n (wkL_nil _)))))))))
    · refine z_ldc2 cst_L_43 rfl ?_
      refine z_lload rfl rfl ?_
      refine z_lmul rfl ?_
      refine z_iload_n rfl rfl ?_
      refine z_i2l rfl ?_
      refine z_lcmp rfl ?_
      refine z_if_ne rfl ?_ ?_
      · refine Z.weak ?_ (t_L_quotient_J51  _ _  _)
        exact wkL_n (wkL_n (wkL_c (wkL_n (wkL_n (wkL_n (wkL_n (wkL_n (wkL_n (wkL_nil _)))))))))
      · refine z_lload rfl rfl ?_
        refine z_ldc2 cst_L_43 rfl ?_
        refine z_lrem rfl ?_
        refine z_lconst rfl ?_
        refine z_lcmp rfl ?_
        refine z_if_ne rfl ?_ ?_
        · refine Z.weak ?_ (t_L_quotient_J51  _ _  _)
          exact wkL_n (wkL_n (wkL_c (wkL_n (wkL_n (wkL_n (wkL_n (wkL_n (wkL_n (wkL_nil _)))))))))
        · refine Z.weak ?_ (t_L_quotient_J49  _ _  _)
          exact wkL_n (wkL_n (wkL_c (wkL_n (wkL_n (wkL_n (wkL_n (wkL_n (wkL_n (wkL_nil _)))))))))
set_option maxRecDepth 20000 in
set_option maxHeartbeats 1000000 in
theorem t_L_print_L4 (c26 : Int64 → Hp → Option (Int × Hp)) (hc26 : ∀ (y1 : Int64) (h : Hp), Z M_L_print 0 0 26 [some (vr 0), some (vx (.long y1)), none, none] [] h (c26 y1 h)) : ∀ (n : Nat) (x1 : Int64) (x3 : Int) (h : Hp), Z M_L_print 0 0 4 [some (vr 0), some (vx (.long x1)), none, some (vi x3)] [] h (f_L_print_L4 c26 n x1 x3 h) := by
  intro n
  induction n with
  | zero => intro x1 x3 h; exact Z.nix
  | succ n ih =>
    intro x1 x3 h
    rw [f_L_print_L4_s]
    refine z_iload_n rfl rfl ?_
    refine z_bipush rfl rfl ?_
    refine z_icmp_ge rfl ?_ ?_
    · refine Z.weak ?_ (hc26 _ _)
      exact wkL_c (wkL_c (wkL_n (wkL_n (wkL_nil _))))
    · refine z_ldc2 cst_L_81 rfl ?_
      refine z_lload_n rfl rfl ?_
      refine z_lmul rfl ?_
      refine z_iload_n rfl rfl ?_
      refine z_bipush rfl rfl ?_
      refine z_icmp_eq rfl ?_ ?_
      · refine z_iconst rfl rfl ?_
        refine z_goto rfl ?_
        refine z_i2l rfl ?_
        refine z_ladd rfl ?_
        refine z_lstore_nL rfl rfl (fun y2 => ?_)
        refine z_iinc rfl rfl rfl ?_
        refine z_goto rfl ?_
        refine Z.weak ?_ (ih _ _ _)
        exact wkL_c (wkL_c (wkL_n (wkL_c (wkL_nil _))))
      · refine z_iload_n rfl rfl ?_
        refine z_bipush rfl rfl ?_
        refine z_icmp_ne rfl ?_ ?_
        · refine z_aload_n rfl rfl ?_
          refine z_iload_n rfl rfl ?_
          refine z_V1i ko4 mv_L_47 kd_0 (t_X4_count _ _) rfl rfl rfl rfl rfl rfl (fun r3 h3 => ?_)
          refine z_i2l rfl ?_
          refine z_ladd rfl ?_
          refine z_lstore_nL rfl rfl (fun y4 => ?_)
          refine z_iinc rfl rfl rfl ?_
          refine z_goto rfl ?_
          refine Z.weak ?_ (ih _ _ _)
          exact wkL_c (wkL_c (wkL_n (wkL_c (wkL_nil _))))
        · refine z_iconst rfl rfl ?_
          refine z_goto rfl ?_
          refine z_i2l rfl ?_
          refine z_ladd rfl ?_
          refine z_lstore_nL rfl rfl (fun y5 => ?_)
          refine z_iinc rfl rfl rfl ?_
          refine z_goto rfl ?_
          refine Z.weak ?_ (ih _ _ _)
          exact wkL_c (wkL_c (wkL_n (wkL_c (wkL_nil _))))
set_option maxRecDepth 20000 in
set_option maxHeartbeats 1000000 in
theorem t_L_print_L28 (c51 : Int64 → Hp → Option (Int × Hp)) (hc51 : ∀ (y1 : Int64) (h : Hp), Z M_L_print 0 0 51 [some (vr 0), some (vx (.long y1)), none, none] [] h (c51 y1 h)) : ∀ (n : Nat) (x1 : Int64) (x3 : Int) (h : Hp), Z M_L_print 0 0 28 [some (vr 0), some (vx (.long x1)), none, some (vi x3)] [] h (f_L_print_L28 c51 n x1 x3 h) := by
  intro n
  induction n with
  | zero => intro x1 x3 h; exact Z.nix
  | succ n ih =>
    intro x1 x3 h
    rw [f_L_print_L28_s]
    refine z_iload_n rfl rfl ?_
    refine z_iconst rfl rfl ?_
    refine z_aload_n rfl rfl ?_
    refine z_iconst rfl rfl ?_
    refine z_V1i ko4 mv_L_47 kd_0 (t_X4_count _ _) rfl rfl rfl rfl rfl rfl (fun r8 h8 => ?_)
    refine z_imul rfl ?_
    refine z_icmp_ge rfl ?_ ?_
    · refine Z.weak ?_ (hc51 _ _)
      exact wkL_c (wkL_c (wkL_n (wkL_n (wkL_nil _))))
    · refine z_ldc2 cst_L_81 rfl ?_
      refine z_lload_n rfl rfl ?_
      refine z_lmul rfl ?_
      refine z_aload_n rfl rfl ?_
      refine z_iload_n rfl rfl ?_
      refine z_iconst rfl rfl ?_
      refine z_idiv rfl rfl ?_
      refine z_iload_n rfl rfl ?_
      refine z_iconst rfl rfl ?_
      refine z_irem rfl rfl ?_
      refine z_V2i ko4 mv_L_50 kd_0 (t_X4_umbrella _ _ _) rfl rfl rfl rfl rfl rfl (fun r9 h9 => ?_)
      refine z_i2l rfl ?_
      refine z_ladd rfl ?_
      refine z_lstore_nL rfl rfl (fun y10 => ?_)
      refine z_iinc rfl rfl rfl ?_
      refine z_goto rfl ?_
      refine Z.weak ?_ (ih _ _ _)
      exact wkL_c (wkL_c (wkL_n (wkL_c (wkL_nil _))))
set_option maxRecDepth 20000 in
set_option maxHeartbeats 1000000 in
theorem t_L_print_L53 (c86 : Int64 → Hp → Option (Int × Hp)) (hc86 : ∀ (y1 : Int64) (h : Hp), Z M_L_print 0 0 86 [some (vr 0), some (vx (.long y1)), none, none] [] h (c86 y1 h)) : ∀ (n : Nat) (x1 : Int64) (x3 : Int) (h : Hp), Z M_L_print 0 0 53 [some (vr 0), some (vx (.long x1)), none, some (vi x3)] [] h (f_L_print_L53 c86 n x1 x3 h) := by
  intro n
  induction n with
  | zero => intro x1 x3 h; exact Z.nix
  | succ n ih =>
    intro x1 x3 h
    rw [f_L_print_L53_s]
    refine z_iload_n rfl rfl ?_
    refine z_iconst rfl rfl ?_
    refine z_aload_n rfl rfl ?_
    refine z_iconst rfl rfl ?_
    refine z_V1i ko4 mv_L_47 kd_0 (t_X4_count _ _) rfl rfl rfl rfl rfl rfl (fun r13 h13 => ?_)
    refine z_imul rfl ?_
    refine z_icmp_ge rfl ?_ ?_
    · refine Z.weak ?_ (hc86 _ _)
      exact wkL_c (wkL_c (wkL_n (wkL_n (wkL_nil _))))
    · refine z_ldc2 cst_L_81 rfl ?_
      refine z_lload_n rfl rfl ?_
      refine z_lmul rfl ?_
      refine z_aload_n rfl rfl ?_
      refine z_iload_n rfl rfl ?_
      refine z_iconst rfl rfl ?_
      refine z_idiv rfl rfl ?_
      refine z_iload_n rfl rfl ?_
      refine z_iconst rfl rfl ?_
      refine z_irem rfl rfl ?_
      refine z_V2i ko4 mv_L_56 kd_0 (t_X4_claimOf _ _ _) rfl rfl rfl rfl rfl rfl (fun r14 h14 => ?_)
      refine z_i2l rfl ?_
      refine z_ladd rfl ?_
      refine z_ldc2 cst_L_83 rfl ?_
      refine z_aload_n rfl rfl ?_
      refine z_iload_n rfl rfl ?_
      refine z_iconst rfl rfl ?_
      refine z_idiv rfl rfl ?_
      refine z_bipush rfl rfl ?_
      refine z_V2i ko4 mv_L_56 kd_0 (t_X4_claimOf _ _ _) rfl rfl rfl rfl rfl rfl (fun r15 h15 => ?_)
      refine z_i2l rfl ?_
      refine z_lmul rfl ?_
      refine z_ladd rfl ?_
      refine z_lstore_nL rfl rfl (fun y16 => ?_)
      refine z_iinc rfl rfl rfl ?_
      refine z_goto rfl ?_
      refine Z.weak ?_ (ih _ _ _)
      exact wkL_c (wkL_c (wkL_n (wkL_c (wkL_nil _))))
set_option maxRecDepth 20000 in
set_option maxHeartbeats 1000000 in
theorem t_L_print_L88  : ∀ (n : Nat) (x1 : Int64) (x3 : Int) (h : Hp), Z M_L_print 0 0 88 [some (vr 0), some (vx (.long x1)), none, some (vi x3)] [] h (f_L_print_L88  n x1 x3 h) := by
  intro n
  induction n with
  | zero => intro x1 x3 h; exact Z.nix
  | succ n ih =>
    intro x1 x3 h
    rw [f_L_print_L88_s]
    refine z_iload_n rfl rfl ?_
    refine z_iconst rfl rfl ?_
    refine z_aload_n rfl rfl ?_
    refine z_bipush rfl rfl ?_
    refine z_V1i ko4 mv_L_47 kd_0 (t_X4_count _ _) rfl rfl rfl rfl rfl rfl (fun r19 h19 => ?_)
    refine z_imul rfl ?_
    refine z_icmp_ge rfl ?_ ?_
    · refine z_lload_n rfl rfl ?_
      exact z_lreturn rfl rfl
    · refine z_ldc2 cst_L_81 rfl ?_
      refine z_lload_n rfl rfl ?_
      refine z_lmul rfl ?_
      refine z_aload_n rfl rfl ?_
      refine z_iload_n rfl rfl ?_
      refine z_iconst rfl rfl ?_
      refine z_idiv rfl rfl ?_
      refine z_iload_n rfl rfl ?_
      refine z_iconst rfl rfl ?_
      refine z_irem rfl rfl ?_
      refine z_V2i ko4 mv_L_85 kd_0 (t_X4_book _ _ _) rfl rfl rfl rfl rfl rfl (fun r20 h20 => ?_)
      refine z_i2l rfl ?_
      refine z_ladd rfl ?_
      refine z_lstore_nL rfl rfl (fun y21 => ?_)
      refine z_iinc rfl rfl rfl ?_
      refine z_goto rfl ?_
      refine Z.weak ?_ (ih _ _ _)
      exact wkL_c (wkL_c (wkL_n (wkL_c (wkL_nil _))))
set_option maxRecDepth 20000 in
set_option maxHeartbeats 1000000 in
theorem t_L_print  (h : Hp) : Ct M_L_print [vr 0] h (f_L_print  h) := by
  refine Ct.mk ok_L_print pl_L_print rfl rfl ?_
  show Z M_L_print 0 0 0 [some (vr 0), none, none, none] [] h (f_L_print  h)
  unfold f_L_print
  refine z_ldc2 cst_L_79 rfl ?_
  refine z_lstore_nL rfl rfl (fun y1 => ?_)
  refine z_iconst rfl rfl ?_
  refine z_istore_n rfl rfl ?_
  refine Z.weak ?_ (t_L_print_L4   _  ?_  fu _ _ _)
  · exact wkL_c (wkL_c (wkL_n (wkL_c (wkL_nil _))))
  · intro y6 h7
    refine z_iconst rfl rfl ?_
    refine z_istore_n rfl rfl ?_
    refine Z.weak ?_ (t_L_print_L28   _  ?_  fu _ _ _)
    · exact wkL_c (wkL_c (wkL_n (wkL_c (wkL_nil _))))
    · intro y11 h12
      refine z_iconst rfl rfl ?_
      refine z_istore_n rfl rfl ?_
      refine Z.weak ?_ (t_L_print_L53   _  ?_  fu _ _ _)
      · exact wkL_c (wkL_c (wkL_n (wkL_c (wkL_nil _))))
      · intro y17 h18
        refine z_iconst rfl rfl ?_
        refine z_istore_n rfl rfl ?_
        refine Z.weak ?_ (t_L_print_L88      fu _ _ _)
        · exact wkL_c (wkL_c (wkL_n (wkL_c (wkL_nil _))))
