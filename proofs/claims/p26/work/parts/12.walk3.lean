/-! printed by wip/gen/gen26.py: the bytecode does what the functions say -/
set_option maxRecDepth 20000 in
set_option maxHeartbeats 1000000 in
theorem t_X0_nextPairOf_L4 (x1 : Int) : ∀ (n : Nat) (x2 : Int) (x3 : Int) (h : Hp), Z M_X0_nextPairOf 0 0 4 [some (vr 19), some (vi x1), some (vi x2), some (vi x3), none] [] h (f_X0_nextPairOf_L4 x1 n x2 x3 h) := by
  intro n
  induction n with
  | zero => intro x2 x3 h; exact Z.nix
  | succ n ih =>
    intro x2 x3 h
    rw [f_X0_nextPairOf_L4_s]
    refine z_iload_n rfl rfl ?_
    refine z_aload_n rfl rfl ?_
    refine z_getI rfl fl_X0_34 rfl kd_19 ?_
    refine z_icmp_ge rfl ?_ ?_
    · refine z_iload_n rfl rfl ?_
      exact z_ireturn rfl rfl
    · refine z_aload_n rfl rfl ?_
      refine z_iload_n rfl rfl ?_
      refine z_iload_n rfl rfl ?_
      refine z_V2i ko0 mv_X0_81 kd_19 (t_X0_pairOf _ _ _) rfl rfl rfl rfl rfl rfl (fun r1 h1 => ?_)
      refine z_istore rfl rfl ?_
      refine z_iload rfl rfl ?_
      refine z_if_lt rfl ?_ ?_
      · refine z_iinc rfl rfl rfl ?_
        refine z_goto rfl ?_
        refine Z.weak ?_ (ih _ _ _)
        exact wkL_c (wkL_c (wkL_c (wkL_c (wkL_n (wkL_nil _)))))
      · refine z_iload rfl rfl ?_
        refine z_sipush rfl rfl ?_
        refine z_icmp_ge rfl ?_ ?_
        · refine z_iinc rfl rfl rfl ?_
          refine z_goto rfl ?_
          refine Z.weak ?_ (ih _ _ _)
          exact wkL_c (wkL_c (wkL_c (wkL_c (wkL_n (wkL_nil _)))))
        · refine z_aload_n rfl rfl ?_
          refine z_getRn (m := 22) rfl fl_X0_18 rfl kd_19 rfl ?_
          refine z_iload rfl rfl ?_
          refine z_baload rfl kd_22 ?_
          refine z_if_eq rfl ?_ ?_
          · refine z_iinc rfl rfl rfl ?_
            refine z_goto rfl ?_
            refine Z.weak ?_ (ih _ _ _)
            exact wkL_c (wkL_c (wkL_c (wkL_c (wkL_n (wkL_nil _)))))
          · refine z_aload_n rfl rfl ?_
            refine z_getRn (m := 23) rfl fl_X0_22 rfl kd_19 rfl ?_
            refine z_iload rfl rfl ?_
            refine z_baload rfl kd_23 ?_
            refine z_if_ne rfl ?_ ?_
            · refine z_iinc rfl rfl rfl ?_
              refine z_goto rfl ?_
              refine Z.weak ?_ (ih _ _ _)
              exact wkL_c (wkL_c (wkL_c (wkL_c (wkL_n (wkL_nil _)))))
            · refine z_aload_n rfl rfl ?_
              refine z_iload rfl rfl ?_
              refine z_iload_n rfl rfl ?_
              refine z_V2i ko0 mv_X0_108 kd_19 (t_X0_aheadOf _ _ _) rfl rfl rfl rfl rfl rfl (fun r2 h2 => ?_)
              refine z_istore_n rfl rfl ?_
              refine z_iinc rfl rfl rfl ?_
              refine z_goto rfl ?_
              refine Z.weak ?_ (ih _ _ _)
              exact wkL_c (wkL_c (wkL_c (wkL_c (wkL_n (wkL_nil _)))))
set_option maxRecDepth 20000 in
set_option maxHeartbeats 1000000 in
theorem t_X0_nextPairOf (x1 : Int) (h : Hp) : Ct M_X0_nextPairOf [vr 19, vi x1] h (f_X0_nextPairOf x1 h) := by
  refine Ct.mk ok_X0_nextPairOf pl_X0_nextPairOf rfl rfl ?_
  show Z M_X0_nextPairOf 0 0 0 [some (vr 19), some (vi x1), none, none, none] [] h (f_X0_nextPairOf x1 h)
  unfold f_X0_nextPairOf
  refine z_iconst rfl rfl ?_
  refine z_istore_n rfl rfl ?_
  refine z_iconst rfl rfl ?_
  refine z_istore_n rfl rfl ?_
  refine Z.weak ?_ (t_X0_nextPairOf_L4  _     fu _ _ _)
  · exact wkL_c (wkL_c (wkL_c (wkL_c (wkL_n (wkL_nil _)))))
set_option maxRecDepth 20000 in
set_option maxHeartbeats 1000000 in
theorem t_X0_nextAsk_L2  : ∀ (n : Nat) (x1 : Int) (h : Hp), Z M_X0_nextAsk 0 0 2 [some (vr 19), some (vi x1), none] [] h (f_X0_nextAsk_L2  n x1 h) := by
  intro n
  induction n with
  | zero => intro x1 h; exact Z.nix
  | succ n ih =>
    intro x1 h
    rw [f_X0_nextAsk_L2_s]
    refine z_iload_n rfl rfl ?_
    refine z_aload_n rfl rfl ?_
    refine z_getI rfl fl_X0_38 rfl kd_19 ?_
    refine z_icmp_ge rfl ?_ ?_
    · refine z_iconst rfl rfl ?_
      exact z_ireturn rfl rfl
    · refine z_aload_n rfl rfl ?_
      refine z_iload_n rfl rfl ?_
      refine z_V1i ko0 mv_X0_105 kd_19 (t_X0_umbrellaMatched _ _) rfl rfl rfl rfl rfl rfl (fun r1 h1 => ?_)
      refine z_iconst rfl rfl ?_
      refine z_icmp_ne rfl ?_ ?_
      · refine z_iinc rfl rfl rfl ?_
        refine z_goto rfl ?_
        refine Z.weak ?_ (ih _ _)
        exact wkL_c (wkL_c (wkL_n (wkL_nil _)))
      · refine z_aload_n rfl rfl ?_
        refine z_iload_n rfl rfl ?_
        refine z_V1i ko0 mv_X0_121 kd_19 (t_X0_nextPairOf _ _) rfl rfl rfl rfl rfl rfl (fun r2 h2 => ?_)
        refine z_istore_n rfl rfl ?_
        refine z_iload_n rfl rfl ?_
        refine z_iconst rfl rfl ?_
        refine z_icmp_eq rfl ?_ ?_
        · refine z_iinc rfl rfl rfl ?_
          refine z_goto rfl ?_
          refine Z.weak ?_ (ih _ _)
          exact wkL_c (wkL_c (wkL_n (wkL_nil _)))
        · refine z_iload_n rfl rfl ?_
          exact z_ireturn rfl rfl
set_option maxRecDepth 20000 in
set_option maxHeartbeats 1000000 in
theorem t_X0_nextAsk  (h : Hp) : Ct M_X0_nextAsk [vr 19] h (f_X0_nextAsk  h) := by
  refine Ct.mk ok_X0_nextAsk pl_X0_nextAsk rfl rfl ?_
  show Z M_X0_nextAsk 0 0 0 [some (vr 19), none, none] [] h (f_X0_nextAsk  h)
  unfold f_X0_nextAsk
  refine z_iconst rfl rfl ?_
  refine z_istore_n rfl rfl ?_
  refine Z.weak ?_ (t_X0_nextAsk_L2      fu _ _)
  · exact wkL_c (wkL_c (wkL_n (wkL_nil _)))
set_option maxRecDepth 20000 in
set_option maxHeartbeats 1000000 in
theorem t_X0_matchByAsking_L7 (x1 : Nat) (k1 : kd x1 = (1, 0)) (c19 : Hp → Option (Int × Hp)) (hc19 : ∀ (h : Hp), Z M_X0_matchByAsking 0 0 19 [some (vr 19), none, none, none] [] h (c19  h)) : ∀ (n : Nat) (x2 : Int) (h : Hp), Z M_X0_matchByAsking 0 0 7 [some (vr 19), none, some (vi x2), none] [] h (f_X0_matchByAsking_L7 x1 c19 n x2 h) := by
  intro n
  induction n with
  | zero => intro x2 h; exact Z.nix
  | succ n ih =>
    intro x2 h
    rw [f_X0_matchByAsking_L7_s]
    refine z_iload_n rfl rfl ?_
    refine z_aload_n rfl rfl ?_
    refine z_getRn (m := 23) rfl fl_X0_22 rfl kd_19 rfl ?_
    refine z_alen (c := 1) rfl kd_23 (by omega) ?_
    refine z_icmp_ge rfl ?_ ?_
    · refine Z.weak ?_ (hc19 _)
      exact wkL_c (wkL_n (wkL_n (wkL_n (wkL_nil _))))
    · refine z_aload_n rfl rfl ?_
      refine z_getRn (m := 23) rfl fl_X0_22 rfl kd_19 rfl ?_
      refine z_iload_n rfl rfl ?_
      refine z_iconst rfl rfl ?_
      refine z_bastoreL kd_23 rfl (fun h3 => ?_)
      refine z_iinc rfl rfl rfl ?_
      refine z_goto rfl ?_
      refine Z.weak ?_ (ih _ _)
      exact wkL_c (wkL_n (wkL_c (wkL_n (wkL_nil _))))
set_option maxRecDepth 20000 in
set_option maxHeartbeats 1000000 in
theorem t_X0_matchByAsking_L21 (x1 : Nat) (k1 : kd x1 = (1, 0)) : ∀ (n : Nat) (x2 : Int) (h : Hp), Z M_X0_matchByAsking 0 0 21 [some (vr 19), none, some (vi x2), none] [] h (f_X0_matchByAsking_L21 x1 n x2 h) := by
  intro n
  induction n with
  | zero => intro x2 h; exact Z.nix
  | succ n ih =>
    intro x2 h
    rw [f_X0_matchByAsking_L21_s]
    refine z_iload_n rfl rfl ?_
    refine z_sipush rfl rfl ?_
    refine z_icmp_ge rfl ?_ ?_
    · exact z_return rfl rfl
    · refine z_aload_n rfl rfl ?_
      refine z_V0i ko0 mv_X0_114 kd_19 (t_X0_nextAsk  _) rfl rfl rfl rfl rfl rfl (fun r5 h5 => ?_)
      refine z_istore_n rfl rfl ?_
      refine z_iload_n rfl rfl ?_
      refine z_iconst rfl rfl ?_
      refine z_icmp_ne rfl ?_ ?_
      · refine z_aload_n rfl rfl ?_
        refine z_iload_n rfl rfl ?_
        refine z_V1v ko0 mv_X0_117 kd_19 (t_X0_askFor _ _) rfl rfl rfl rfl rfl (fun _ h6 => ?_)
        refine z_iinc rfl rfl rfl ?_
        refine z_goto rfl ?_
        refine Z.weak ?_ (ih _ _)
        exact wkL_c (wkL_n (wkL_c (wkL_n (wkL_nil _))))
      · exact z_return rfl rfl
set_option maxRecDepth 20000 in
set_option maxHeartbeats 1000000 in
theorem t_X0_matchByAsking (x1 : Nat) (k1 : kd x1 = (1, 0)) (h : Hp) : Ct M_X0_matchByAsking [vr 19, vr x1] h (f_X0_matchByAsking x1 h) := by
  refine Ct.mk ok_X0_matchByAsking pl_X0_matchByAsking rfl rfl ?_
  show Z M_X0_matchByAsking 0 0 0 [some (vr 19), some (vr x1), none, none] [] h (f_X0_matchByAsking x1 h)
  unfold f_X0_matchByAsking
  refine z_aload_n rfl rfl ?_
  refine z_aload_n rfl rfl ?_
  refine z_V1v ko0 mv_X0_88 kd_19 (t_X0_weighAll x1 k1 _) rfl rfl rfl rfl rfl (fun _ h1 => ?_)
  refine z_aload_n rfl rfl ?_
  refine z_V0v ko0 mv_X0_91 kd_19 (t_X0_matchNone  _) rfl rfl rfl rfl rfl (fun _ h2 => ?_)
  refine z_iconst rfl rfl ?_
  refine z_istore_n rfl rfl ?_
  refine Z.weak ?_ (t_X0_matchByAsking_L7 x1 k1  _  ?_  fu _ _)
  · exact wkL_c (wkL_n (wkL_c (wkL_n (wkL_nil _))))
  · intro h4
    refine z_iconst rfl rfl ?_
    refine z_istore_n rfl rfl ?_
    refine Z.weak ?_ (t_X0_matchByAsking_L21 x1 k1     fu _ _)
    · exact wkL_c (wkL_n (wkL_c (wkL_n (wkL_nil _))))
set_option maxRecDepth 20000 in
set_option maxHeartbeats 1000000 in
theorem t_X4_count_J13 (x1 : Int) (h : Hp) : Z M_X4_count 0 0 13 [some (vr 0), some (vi x1)] [] h (f_X4_count_J13 x1 h) := by
  unfold f_X4_count_J13
  refine z_iload_n rfl rfl ?_
  refine Z.ite (fun e1 => ?_) (fun e1 => ?_)
  · refine z_table (tg := 15) rfl (o := 71) (by rw [e1]; rfl) rfl ?_
    refine z_aload_n rfl rfl ?_
    refine z_getRn (m := 1) rfl fl_X4_10 rfl kd_0 rfl ?_
    refine z_getRn (m := 2) rfl fl_X4_89 rfl kd_1 rfl ?_
    refine z_getI rfl fl_X4_147 rfl kd_2 ?_
    exact z_ireturn rfl rfl
  refine Z.ite (fun e2 => ?_) (fun e2 => ?_)
  · refine z_table (tg := 20) rfl (o := 82) (by rw [e2]; rfl) rfl ?_
    refine z_aload_n rfl rfl ?_
    refine z_getRn (m := 1) rfl fl_X4_10 rfl kd_0 rfl ?_
    refine z_getRn (m := 4) rfl fl_X4_116 rfl kd_1 rfl ?_
    refine z_getI rfl fl_X4_147 rfl kd_4 ?_
    exact z_ireturn rfl rfl
  refine Z.ite (fun e4 => ?_) (fun e4 => ?_)
  · refine z_table (tg := 25) rfl (o := 93) (by rw [e4]; rfl) rfl ?_
    refine z_aload_n rfl rfl ?_
    refine z_getRn (m := 19) rfl fl_X4_22 rfl kd_0 rfl ?_
    refine z_aload_n rfl rfl ?_
    refine z_getRn (m := 1) rfl fl_X4_10 rfl kd_0 rfl ?_
    refine z_V1v ko0 mv_X4_78 kd_19 (t_X0_matchAll 1 kd_1 _) rfl rfl rfl rfl rfl (fun _ h3 => ?_)
    refine z_aload_n rfl rfl ?_
    refine z_getRn (m := 19) rfl fl_X4_22 rfl kd_0 rfl ?_
    refine z_getI rfl fl_X4_163 rfl kd_19 ?_
    exact z_ireturn rfl rfl
  refine Z.ite (fun e6 => ?_) (fun e6 => ?_)
  · refine z_table (tg := 34) rfl (o := 112) (by rw [e6]; rfl) rfl ?_
    refine z_aload_n rfl rfl ?_
    refine z_getRn (m := 19) rfl fl_X4_22 rfl kd_0 rfl ?_
    refine z_aload_n rfl rfl ?_
    refine z_getRn (m := 1) rfl fl_X4_10 rfl kd_0 rfl ?_
    refine z_V1v ko0 mv_X4_177 kd_19 (t_X0_matchByAsking 1 kd_1 _) rfl rfl rfl rfl rfl (fun _ h5 => ?_)
    refine z_aload_n rfl rfl ?_
    refine z_getRn (m := 19) rfl fl_X4_22 rfl kd_0 rfl ?_
    refine z_getI rfl fl_X4_163 rfl kd_19 ?_
    exact z_ireturn rfl rfl
  refine Z.ite (fun e8 => ?_) (fun e8 => ?_)
  · refine z_table (tg := 55) rfl (o := 155) (by rw [e8]; rfl) rfl ?_
    refine z_iload_n rfl rfl ?_
    refine z_if_lt rfl ?_ ?_
    · refine z_ldc rfl cst_X4_99 rfl ?_
      exact z_ireturn rfl rfl
    · refine z_iload_n rfl rfl ?_
      refine z_bipush rfl rfl ?_
      refine z_icmp_ge rfl ?_ ?_
      · refine z_ldc rfl cst_X4_99 rfl ?_
        exact z_ireturn rfl rfl
      · refine z_aload_n rfl rfl ?_
        refine z_getRn (m := 1) rfl fl_X4_10 rfl kd_0 rfl ?_
        refine z_iload_n rfl rfl ?_
        refine z_V1i ko1 mv_X4_160 kd_1 (t_X1_sum 1 kd_1 _ _) rfl rfl rfl rfl rfl rfl (fun r7 h7 => ?_)
        refine z_goto rfl ?_
        exact z_ireturn rfl rfl
  refine Z.ite (fun e10 => ?_) (fun e10 => ?_)
  · refine z_table (tg := 55) rfl (o := 155) (by rw [e10]; rfl) rfl ?_
    refine z_iload_n rfl rfl ?_
    refine z_if_lt rfl ?_ ?_
    · refine z_ldc rfl cst_X4_99 rfl ?_
      exact z_ireturn rfl rfl
    · refine z_iload_n rfl rfl ?_
      refine z_bipush rfl rfl ?_
      refine z_icmp_ge rfl ?_ ?_
      · refine z_ldc rfl cst_X4_99 rfl ?_
        exact z_ireturn rfl rfl
      · refine z_aload_n rfl rfl ?_
        refine z_getRn (m := 1) rfl fl_X4_10 rfl kd_0 rfl ?_
        refine z_iload_n rfl rfl ?_
        refine z_V1i ko1 mv_X4_160 kd_1 (t_X1_sum 1 kd_1 _ _) rfl rfl rfl rfl rfl rfl (fun r9 h9 => ?_)
        refine z_goto rfl ?_
        exact z_ireturn rfl rfl
  refine Z.ite (fun e12 => ?_) (fun e12 => ?_)
  · refine z_table (tg := 55) rfl (o := 155) (by rw [e12]; rfl) rfl ?_
    refine z_iload_n rfl rfl ?_
    refine z_if_lt rfl ?_ ?_
    · refine z_ldc rfl cst_X4_99 rfl ?_
      exact z_ireturn rfl rfl
    · refine z_iload_n rfl rfl ?_
      refine z_bipush rfl rfl ?_
      refine z_icmp_ge rfl ?_ ?_
      · refine z_ldc rfl cst_X4_99 rfl ?_
        exact z_ireturn rfl rfl
      · refine z_aload_n rfl rfl ?_
        refine z_getRn (m := 1) rfl fl_X4_10 rfl kd_0 rfl ?_
        refine z_iload_n rfl rfl ?_
        refine z_V1i ko1 mv_X4_160 kd_1 (t_X1_sum 1 kd_1 _ _) rfl rfl rfl rfl rfl rfl (fun r11 h11 => ?_)
        refine z_goto rfl ?_
        exact z_ireturn rfl rfl
  refine Z.ite (fun e14 => ?_) (fun e14 => ?_)
  · refine z_table (tg := 55) rfl (o := 155) (by rw [e14]; rfl) rfl ?_
    refine z_iload_n rfl rfl ?_
    refine z_if_lt rfl ?_ ?_
    · refine z_ldc rfl cst_X4_99 rfl ?_
      exact z_ireturn rfl rfl
    · refine z_iload_n rfl rfl ?_
      refine z_bipush rfl rfl ?_
      refine z_icmp_ge rfl ?_ ?_
      · refine z_ldc rfl cst_X4_99 rfl ?_
        exact z_ireturn rfl rfl
      · refine z_aload_n rfl rfl ?_
        refine z_getRn (m := 1) rfl fl_X4_10 rfl kd_0 rfl ?_
        refine z_iload_n rfl rfl ?_
        refine z_V1i ko1 mv_X4_160 kd_1 (t_X1_sum 1 kd_1 _ _) rfl rfl rfl rfl rfl rfl (fun r13 h13 => ?_)
        refine z_goto rfl ?_
        exact z_ireturn rfl rfl
  refine Z.ite (fun e16 => ?_) (fun e16 => ?_)
  · refine z_table (tg := 55) rfl (o := 155) (by rw [e16]; rfl) rfl ?_
    refine z_iload_n rfl rfl ?_
    refine z_if_lt rfl ?_ ?_
    · refine z_ldc rfl cst_X4_99 rfl ?_
      exact z_ireturn rfl rfl
    · refine z_iload_n rfl rfl ?_
      refine z_bipush rfl rfl ?_
      refine z_icmp_ge rfl ?_ ?_
      · refine z_ldc rfl cst_X4_99 rfl ?_
        exact z_ireturn rfl rfl
      · refine z_aload_n rfl rfl ?_
        refine z_getRn (m := 1) rfl fl_X4_10 rfl kd_0 rfl ?_
        refine z_iload_n rfl rfl ?_
        refine z_V1i ko1 mv_X4_160 kd_1 (t_X1_sum 1 kd_1 _ _) rfl rfl rfl rfl rfl rfl (fun r15 h15 => ?_)
        refine z_goto rfl ?_
        exact z_ireturn rfl rfl
  refine Z.ite (fun e18 => ?_) (fun e18 => ?_)
  · refine z_table (tg := 55) rfl (o := 155) (by rw [e18]; rfl) rfl ?_
    refine z_iload_n rfl rfl ?_
    refine z_if_lt rfl ?_ ?_
    · refine z_ldc rfl cst_X4_99 rfl ?_
      exact z_ireturn rfl rfl
    · refine z_iload_n rfl rfl ?_
      refine z_bipush rfl rfl ?_
      refine z_icmp_ge rfl ?_ ?_
      · refine z_ldc rfl cst_X4_99 rfl ?_
        exact z_ireturn rfl rfl
      · refine z_aload_n rfl rfl ?_
        refine z_getRn (m := 1) rfl fl_X4_10 rfl kd_0 rfl ?_
        refine z_iload_n rfl rfl ?_
        refine z_V1i ko1 mv_X4_160 kd_1 (t_X1_sum 1 kd_1 _ _) rfl rfl rfl rfl rfl rfl (fun r17 h17 => ?_)
        refine z_goto rfl ?_
        exact z_ireturn rfl rfl
  refine Z.ite (fun e20 => ?_) (fun e20 => ?_)
  · refine z_table (tg := 55) rfl (o := 155) (by rw [e20]; rfl) rfl ?_
    refine z_iload_n rfl rfl ?_
    refine z_if_lt rfl ?_ ?_
    · refine z_ldc rfl cst_X4_99 rfl ?_
      exact z_ireturn rfl rfl
    · refine z_iload_n rfl rfl ?_
      refine z_bipush rfl rfl ?_
      refine z_icmp_ge rfl ?_ ?_
      · refine z_ldc rfl cst_X4_99 rfl ?_
        exact z_ireturn rfl rfl
      · refine z_aload_n rfl rfl ?_
        refine z_getRn (m := 1) rfl fl_X4_10 rfl kd_0 rfl ?_
        refine z_iload_n rfl rfl ?_
        refine z_V1i ko1 mv_X4_160 kd_1 (t_X1_sum 1 kd_1 _ _) rfl rfl rfl rfl rfl rfl (fun r19 h19 => ?_)
        refine z_goto rfl ?_
        exact z_ireturn rfl rfl
  refine Z.ite (fun e21 => ?_) (fun e21 => ?_)
  · refine z_table (tg := 43) rfl (o := 131) (by rw [e21]; rfl) rfl ?_
    refine z_aload_n rfl rfl ?_
    refine z_getRn (m := 1) rfl fl_X4_10 rfl kd_0 rfl ?_
    refine z_getRn (m := 6) rfl fl_X4_144 rfl kd_1 rfl ?_
    refine z_getI rfl fl_X4_147 rfl kd_6 ?_
    exact z_ireturn rfl rfl
  refine Z.ite (fun e22 => ?_) (fun e22 => ?_)
  · refine z_table (tg := 48) rfl (o := 142) (by rw [e22]; rfl) rfl ?_
    refine z_aload_n rfl rfl ?_
    refine z_getI rfl fl_X4_30 rfl kd_0 ?_
    exact z_ireturn rfl rfl
  refine Z.ite (fun e23 => ?_) (fun e23 => ?_)
  · refine z_table (tg := 51) rfl (o := 147) (by rw [e23]; rfl) rfl ?_
    refine z_aload_n rfl rfl ?_
    refine z_getRn (m := 28) rfl fl_X4_37 rfl kd_0 rfl ?_
    refine z_getI rfl fl_X4_180 rfl kd_28 ?_
    exact z_ireturn rfl rfl
  refine z_table (tg := 55) rfl (o := 155) (if_pos (by omega)) rfl ?_
  refine z_iload_n rfl rfl ?_
  refine z_if_lt rfl ?_ ?_
  · refine z_ldc rfl cst_X4_99 rfl ?_
    exact z_ireturn rfl rfl
  · refine z_iload_n rfl rfl ?_
    refine z_bipush rfl rfl ?_
    refine z_icmp_ge rfl ?_ ?_
    · refine z_ldc rfl cst_X4_99 rfl ?_
      exact z_ireturn rfl rfl
    · refine z_aload_n rfl rfl ?_
      refine z_getRn (m := 1) rfl fl_X4_10 rfl kd_0 rfl ?_
      refine z_iload_n rfl rfl ?_
      refine z_V1i ko1 mv_X4_160 kd_1 (t_X1_sum 1 kd_1 _ _) rfl rfl rfl rfl rfl rfl (fun r24 h24 => ?_)
      refine z_goto rfl ?_
      exact z_ireturn rfl rfl
set_option maxRecDepth 20000 in
set_option maxHeartbeats 1000000 in
theorem t_X4_count (x1 : Int) (h : Hp) : Ct M_X4_count [vr 0, vi x1] h (f_X4_count x1 h) := by
  refine Ct.mk ok_X4_count pl_X4_count rfl rfl ?_
  show Z M_X4_count 0 0 0 [some (vr 0), some (vi x1)] [] h (f_X4_count x1 h)
  unfold f_X4_count
  refine z_iload_n rfl rfl ?_
  refine z_bipush rfl rfl ?_
  refine z_icmp_lt rfl ?_ ?_
  · refine Z.weak ?_ (t_X4_count_J13  _  _)
    exact wkL_c (wkL_c (wkL_nil _))
  · refine z_iload_n rfl rfl ?_
    refine z_bipush rfl rfl ?_
    refine z_icmp_ge rfl ?_ ?_
    · refine Z.weak ?_ (t_X4_count_J13  _  _)
      exact wkL_c (wkL_c (wkL_nil _))
    · refine z_aload_n rfl rfl ?_
      refine z_getRn (m := 1) rfl fl_X4_10 rfl kd_0 rfl ?_
      refine z_iload_n rfl rfl ?_
      refine z_bipush rfl rfl ?_
      refine z_isub rfl ?_
      refine z_V1i ko1 mv_X4_174 kd_1 (t_X1_setting 1 kd_1 _ _) rfl rfl rfl rfl rfl rfl (fun r25 h25 => ?_)
      exact z_ireturn rfl rfl
set_option maxRecDepth 20000 in
set_option maxHeartbeats 1000000 in
theorem t_X0_claimsSuiting_L4 (x1 : Int) : ∀ (n : Nat) (x2 : Int) (x3 : Int) (h : Hp), Z M_X0_claimsSuiting 0 0 4 [some (vr 19), some (vi x1), some (vi x2), some (vi x3)] [] h (f_X0_claimsSuiting_L4 x1 n x2 x3 h) := by
  intro n
  induction n with
  | zero => intro x2 x3 h; exact Z.nix
  | succ n ih =>
    intro x2 x3 h
    rw [f_X0_claimsSuiting_L4_s]
    refine z_iload_n rfl rfl ?_
    refine z_aload_n rfl rfl ?_
    refine z_getI rfl fl_X0_38 rfl kd_19 ?_
    refine z_icmp_ge rfl ?_ ?_
    · refine z_iload_n rfl rfl ?_
      exact z_ireturn rfl rfl
    · refine z_aload_n rfl rfl ?_
      refine z_iload_n rfl rfl ?_
      refine z_iload_n rfl rfl ?_
      refine z_V2i ko0 mv_X0_84 kd_19 (t_X0_suits _ _ _) rfl rfl rfl rfl rfl rfl (fun r1 h1 => ?_)
      refine z_if_eq rfl ?_ ?_
      · refine z_iinc rfl rfl rfl ?_
        refine z_goto rfl ?_
        refine Z.weak ?_ (ih _ _ _)
        exact wkL_c (wkL_c (wkL_c (wkL_c (wkL_nil _))))
      · refine z_iinc rfl rfl rfl ?_
        refine z_iinc rfl rfl rfl ?_
        refine z_goto rfl ?_
        refine Z.weak ?_ (ih _ _ _)
        exact wkL_c (wkL_c (wkL_c (wkL_c (wkL_nil _))))
set_option maxRecDepth 20000 in
set_option maxHeartbeats 1000000 in
theorem t_X0_claimsSuiting (x1 : Int) (h : Hp) : Ct M_X0_claimsSuiting [vr 19, vi x1] h (f_X0_claimsSuiting x1 h) := by
  refine Ct.mk ok_X0_claimsSuiting pl_X0_claimsSuiting rfl rfl ?_
  show Z M_X0_claimsSuiting 0 0 0 [some (vr 19), some (vi x1), none, none] [] h (f_X0_claimsSuiting x1 h)
  unfold f_X0_claimsSuiting
  refine z_iconst rfl rfl ?_
  refine z_istore_n rfl rfl ?_
  refine z_iconst rfl rfl ?_
  refine z_istore_n rfl rfl ?_
  refine Z.weak ?_ (t_X0_claimsSuiting_L4  _     fu _ _ _)
  · exact wkL_c (wkL_c (wkL_c (wkL_c (wkL_nil _))))
set_option maxRecDepth 20000 in
set_option maxHeartbeats 1000000 in
theorem t_X0_worthOf (x1 : Int) (x2 : Int) (h : Hp) : Ct M_X0_worthOf [vr 19, vi x1, vi x2] h (f_X0_worthOf x1 x2 h) := by
  refine Ct.mk ok_X0_worthOf pl_X0_worthOf rfl rfl ?_
  show Z M_X0_worthOf 0 0 0 [some (vr 19), some (vi x1), some (vi x2)] [] h (f_X0_worthOf x1 x2 h)
  unfold f_X0_worthOf
  refine z_aload_n rfl rfl ?_
  refine z_getRn (m := 21) rfl fl_X0_15 rfl kd_19 rfl ?_
  refine z_aload_n rfl rfl ?_
  refine z_iload_n rfl rfl ?_
  refine z_iload_n rfl rfl ?_
  refine z_V2i ko0 mv_X0_81 kd_19 (t_X0_pairOf _ _ _) rfl rfl rfl rfl rfl rfl (fun r1 h1 => ?_)
  refine z_N2i mn_X0_73 (t_X4_numberAt 21 144 (Or.inl kd_21) _ _) rfl rfl rfl rfl rfl (fun r2 h2 => ?_)
  exact z_ireturn rfl rfl
set_option maxRecDepth 20000 in
set_option maxHeartbeats 1000000 in
theorem t_X1_umbrellasWith_L4 (x0 : Nat) (k0 : kd x0 = (1, 0)) (x1 : Int) (x2 : Int) : ∀ (n : Nat) (x3 : Int) (x4 : Int) (h : Hp), Z M_X1_umbrellasWith 0 0 4 [some (vr x0), some (vi x1), some (vi x2), some (vi x3), some (vi x4)] [] h (f_X1_umbrellasWith_L4 x0 x1 x2 n x3 x4 h) := by
  intro n
  induction n with
  | zero => intro x3 x4 h; exact Z.nix
  | succ n ih =>
    intro x3 x4 h
    rw [f_X1_umbrellasWith_L4_s]
    refine z_iload rfl rfl ?_
    refine z_aload_n rfl rfl ?_
    refine z_getR rfl fl_X1_12 rfl k0 ?_
    refine z_getI rfl fl_X1_44 rfl (kO_1 k0) ?_
    refine z_icmp_ge rfl ?_ ?_
    · refine z_iload_n rfl rfl ?_
      exact z_ireturn rfl rfl
    · refine z_aload_n rfl rfl ?_
      refine z_getR rfl fl_X1_12 rfl k0 ?_
      refine z_iload rfl rfl ?_
      refine z_iload_n rfl rfl ?_
      refine z_V2i ko2 mv_X1_48 (kO_1 k0) (t_X2_cell (x0 + 1) (kO_1 k0) _ _ _) rfl rfl rfl rfl rfl rfl (fun r1 h1 => ?_)
      refine z_iload_n rfl rfl ?_
      refine z_icmp_ne rfl ?_ ?_
      · refine z_iinc rfl rfl rfl ?_
        refine z_goto rfl ?_
        refine Z.weak ?_ (ih _ _ _)
        exact wkL_c (wkL_c (wkL_c (wkL_c (wkL_c (wkL_nil _)))))
      · refine z_iinc rfl rfl rfl ?_
        refine z_iinc rfl rfl rfl ?_
        refine z_goto rfl ?_
        refine Z.weak ?_ (ih _ _ _)
        exact wkL_c (wkL_c (wkL_c (wkL_c (wkL_c (wkL_nil _)))))
set_option maxRecDepth 20000 in
set_option maxHeartbeats 1000000 in
theorem t_X1_umbrellasWith (x0 : Nat) (k0 : kd x0 = (1, 0)) (x1 : Int) (x2 : Int) (h : Hp) : Ct M_X1_umbrellasWith [vr x0, vi x1, vi x2] h (f_X1_umbrellasWith x0 x1 x2 h) := by
  refine Ct.mk ok_X1_umbrellasWith pl_X1_umbrellasWith rfl rfl ?_
  show Z M_X1_umbrellasWith 0 0 0 [some (vr x0), some (vi x1), some (vi x2), none, none] [] h (f_X1_umbrellasWith x0 x1 x2 h)
  unfold f_X1_umbrellasWith
  refine z_iconst rfl rfl ?_
  refine z_istore_n rfl rfl ?_
  refine z_iconst rfl rfl ?_
  refine z_istore rfl rfl ?_
  refine Z.weak ?_ (t_X1_umbrellasWith_L4 x0 k0 _ _     fu _ _ _)
  · exact wkL_c (wkL_c (wkL_c (wkL_c (wkL_c (wkL_nil _)))))
set_option maxRecDepth 20000 in
set_option maxHeartbeats 1000000 in
theorem t_X1_oddnessTogether_L4 (x0 : Nat) (k0 : kd x0 = (1, 0)) (x1 : Int) : ∀ (n : Nat) (x2 : Int) (x3 : Int) (h : Hp), Z M_X1_oddnessTogether 0 0 4 [some (vr x0), some (vi x1), some (vi x2), some (vi x3)] [] h (f_X1_oddnessTogether_L4 x0 x1 n x2 x3 h) := by
  intro n
  induction n with
  | zero => intro x2 x3 h; exact Z.nix
  | succ n ih =>
    intro x2 x3 h
    rw [f_X1_oddnessTogether_L4_s]
    refine z_iload_n rfl rfl ?_
    refine z_iconst rfl rfl ?_
    refine z_icmp_ge rfl ?_ ?_
    · refine z_iload_n rfl rfl ?_
      exact z_ireturn rfl rfl
    · refine z_iload_n rfl rfl ?_
      refine z_bipush rfl rfl ?_
      refine z_aload_n rfl rfl ?_
      refine z_iload_n rfl rfl ?_
      refine z_aload_n rfl rfl ?_
      refine z_getR rfl fl_X1_12 rfl k0 ?_
      refine z_iload_n rfl rfl ?_
      refine z_iload_n rfl rfl ?_
      refine z_V2i ko2 mv_X1_48 (kO_1 k0) (t_X2_cell (x0 + 1) (kO_1 k0) _ _ _) rfl rfl rfl rfl rfl rfl (fun r1 h1 => ?_)
      refine z_V2i ko1 mv_X1_52 k0 (t_X1_umbrellasWith x0 k0 _ _ _) rfl rfl rfl rfl rfl rfl (fun r2 h2 => ?_)
      refine z_isub rfl ?_
      refine z_iadd rfl ?_
      refine z_istore_nL rfl rfl (fun y3 => ?_)
      refine z_iinc rfl rfl rfl ?_
      refine z_goto rfl ?_
      refine Z.weak ?_ (ih _ _ _)
      exact wkL_c (wkL_c (wkL_c (wkL_c (wkL_nil _))))
set_option maxRecDepth 20000 in
set_option maxHeartbeats 1000000 in
theorem t_X1_oddnessTogether (x0 : Nat) (k0 : kd x0 = (1, 0)) (x1 : Int) (h : Hp) : Ct M_X1_oddnessTogether [vr x0, vi x1] h (f_X1_oddnessTogether x0 x1 h) := by
  refine Ct.mk ok_X1_oddnessTogether pl_X1_oddnessTogether rfl rfl ?_
  show Z M_X1_oddnessTogether 0 0 0 [some (vr x0), some (vi x1), none, none] [] h (f_X1_oddnessTogether x0 x1 h)
  unfold f_X1_oddnessTogether
  refine z_iconst rfl rfl ?_
  refine z_istore_n rfl rfl ?_
  refine z_iconst rfl rfl ?_
  refine z_istore_n rfl rfl ?_
  refine Z.weak ?_ (t_X1_oddnessTogether_L4 x0 k0 _     fu _ _ _)
  · exact wkL_c (wkL_c (wkL_c (wkL_c (wkL_nil _))))
set_option maxRecDepth 20000 in
set_option maxHeartbeats 1000000 in
theorem t_X4_umbrella (x1 : Int) (x2 : Int) (h : Hp) : Ct M_X4_umbrella [vr 0, vi x1, vi x2] h (f_X4_umbrella x1 x2 h) := by
  refine Ct.mk ok_X4_umbrella pl_X4_umbrella rfl rfl ?_
  show Z M_X4_umbrella 0 0 0 [some (vr 0), some (vi x1), some (vi x2), none] [] h (f_X4_umbrella x1 x2 h)
  unfold f_X4_umbrella
  refine z_aload_n rfl rfl ?_
  refine z_getRn (m := 1) rfl fl_X4_10 rfl kd_0 rfl ?_
  refine z_getRn (m := 2) rfl fl_X4_89 rfl kd_1 rfl ?_
  refine z_iload_n rfl rfl ?_
  refine z_V1i ko2 mv_X4_93 kd_2 (t_X2_has 2 kd_2 _ _) rfl rfl rfl rfl rfl rfl (fun r1 h1 => ?_)
  refine z_if_eq rfl ?_ ?_
  · refine z_ldc rfl cst_X4_99 rfl ?_
    exact z_ireturn rfl rfl
  · refine z_iload_n rfl rfl ?_
    refine z_if_lt rfl ?_ ?_
    · refine z_ldc rfl cst_X4_99 rfl ?_
      exact z_ireturn rfl rfl
    · refine z_iload_n rfl rfl ?_
      refine z_bipush rfl rfl ?_
      refine z_icmp_le rfl ?_ ?_
      · refine z_iload_n rfl rfl ?_
        refine z_iconst rfl rfl ?_
        refine z_icmp_gt rfl ?_ ?_
        · refine z_iload_n rfl rfl ?_
          refine z_bipush rfl rfl ?_
          refine z_icmp_ne rfl ?_ ?_
          · refine z_aload_n rfl rfl ?_
            refine z_getRn (m := 19) rfl fl_X4_22 rfl kd_0 rfl ?_
            refine z_aload_n rfl rfl ?_
            refine z_getRn (m := 1) rfl fl_X4_10 rfl kd_0 rfl ?_
            refine z_V1v ko0 mv_X4_78 kd_19 (t_X0_matchAll 1 kd_1 _) rfl rfl rfl rfl rfl (fun _ h2 => ?_)
            refine z_iload_n rfl rfl ?_
            refine z_bipush rfl rfl ?_
            refine z_icmp_ne rfl ?_ ?_
            · refine z_aload_n rfl rfl ?_
              refine z_getRn (m := 19) rfl fl_X4_22 rfl kd_0 rfl ?_
              refine z_iload_n rfl rfl ?_
              refine z_V1i ko0 mv_X4_109 kd_19 (t_X0_claimMatched _ _) rfl rfl rfl rfl rfl rfl (fun r3 h3 => ?_)
              refine z_istore_n rfl rfl ?_
              refine z_iload_n rfl rfl ?_
              refine z_iconst rfl rfl ?_
              refine z_icmp_ne rfl ?_ ?_
              · refine z_iload_n rfl rfl ?_
                refine z_iconst rfl rfl ?_
                refine z_icmp_ne rfl ?_ ?_
                · refine z_aload_n rfl rfl ?_
                  refine z_getRn (m := 19) rfl fl_X4_22 rfl kd_0 rfl ?_
                  refine z_iload_n rfl rfl ?_
                  refine z_iload_n rfl rfl ?_
                  refine z_V2i ko0 mv_X4_113 kd_19 (t_X0_worthOf _ _ _) rfl rfl rfl rfl rfl rfl (fun r4 h4 => ?_)
                  exact z_ireturn rfl rfl
                · refine z_iload_n rfl rfl ?_
                  refine z_goto rfl ?_
                  exact z_ireturn rfl rfl
              · refine z_ldc rfl cst_X4_112 rfl ?_
                exact z_ireturn rfl rfl
            · refine z_aload_n rfl rfl ?_
              refine z_getRn (m := 19) rfl fl_X4_22 rfl kd_0 rfl ?_
              refine z_iload_n rfl rfl ?_
              refine z_V1i ko0 mv_X4_106 kd_19 (t_X0_claimsSuiting _ _) rfl rfl rfl rfl rfl rfl (fun r5 h5 => ?_)
              exact z_ireturn rfl rfl
          · refine z_aload_n rfl rfl ?_
            refine z_getRn (m := 1) rfl fl_X4_10 rfl kd_0 rfl ?_
            refine z_iload_n rfl rfl ?_
            refine z_V1i ko1 mv_X4_103 kd_1 (t_X1_oddnessTogether 1 kd_1 _ _) rfl rfl rfl rfl rfl rfl (fun r6 h6 => ?_)
            exact z_ireturn rfl rfl
        · refine z_aload_n rfl rfl ?_
          refine z_getRn (m := 1) rfl fl_X4_10 rfl kd_0 rfl ?_
          refine z_getRn (m := 2) rfl fl_X4_89 rfl kd_1 rfl ?_
          refine z_iload_n rfl rfl ?_
          refine z_iload_n rfl rfl ?_
          refine z_V2i ko2 mv_X4_100 kd_2 (t_X2_cell 2 kd_2 _ _ _) rfl rfl rfl rfl rfl rfl (fun r7 h7 => ?_)
          exact z_ireturn rfl rfl
      · refine z_ldc rfl cst_X4_99 rfl ?_
        exact z_ireturn rfl rfl
set_option maxRecDepth 20000 in
set_option maxHeartbeats 1000000 in
theorem t_X4_undo  (h : Hp) : Ct M_X4_undo [vr 0] h (f_X4_undo  h) := by
  refine Ct.mk ok_X4_undo pl_X4_undo rfl rfl ?_
  show Z M_X4_undo 0 0 0 [some (vr 0)] [] h (f_X4_undo  h)
  unfold f_X4_undo
  refine z_aload_n rfl rfl ?_
  refine z_getI rfl fl_X4_30 rfl kd_0 ?_
  refine z_if_le rfl ?_ ?_
  · refine z_ldc rfl cst_X4_183 rfl ?_
    exact z_ireturn rfl rfl
  · refine z_aload_n rfl rfl ?_
    refine z_getI rfl fl_X4_30 rfl kd_0 ?_
    refine z_aload_n rfl rfl ?_
    refine z_getRn (m := 27) rfl fl_X4_26 rfl kd_0 rfl ?_
    refine z_alen (c := 3) rfl kd_27 (by omega) ?_
    refine z_icmp_le rfl ?_ ?_
    · refine z_aload_n rfl rfl ?_
      refine z_dup rfl rfl ?_
      refine z_getI rfl fl_X4_30 rfl kd_0 ?_
      refine z_iconst rfl rfl ?_
      refine z_isub rfl ?_
      refine z_putL fi_X4_30 rfl kd_0 rfl (fun h1 => ?_)
      refine z_aload_n rfl rfl ?_
      refine z_getRn (m := 1) rfl fl_X4_10 rfl kd_0 rfl ?_
      refine z_aload_n rfl rfl ?_
      refine z_getRn (m := 27) rfl fl_X4_26 rfl kd_0 rfl ?_
      refine z_aload_n rfl rfl ?_
      refine z_getI rfl fl_X4_30 rfl kd_0 ?_
      refine z_aaload rfl kd_27 (fun q2 => ?_)
      refine z_V1v ko1 mv_X4_154 kd_1 (t_X1_become 1 kd_1 (Int.toNat (h1 27 (Int.toNat (h1 0 4)))) q2 _) rfl rfl rfl rfl rfl (fun _ h3 => ?_)
      refine z_aload_n rfl rfl ?_
      refine z_getI rfl fl_X4_30 rfl kd_0 ?_
      exact z_ireturn rfl rfl
    · refine z_ldc rfl cst_X4_183 rfl ?_
      exact z_ireturn rfl rfl
set_option maxRecDepth 20000 in
set_option maxHeartbeats 1000000 in
theorem t_X4_orNotFound (x0 : Int) (h : Hp) : Ct M_X4_orNotFound [vi x0] h (f_X4_orNotFound x0 h) := by
  refine Ct.mk ok_X4_orNotFound pl_X4_orNotFound rfl rfl ?_
  show Z M_X4_orNotFound 0 0 0 [some (vi x0)] [] h (f_X4_orNotFound x0 h)
  unfold f_X4_orNotFound
  refine z_iload_n rfl rfl ?_
  refine z_iconst rfl rfl ?_
  refine z_icmp_ne rfl ?_ ?_
  · refine z_iload_n rfl rfl ?_
    exact z_ireturn rfl rfl
  · refine z_ldc rfl cst_X4_112 rfl ?_
    refine z_goto rfl ?_
    exact z_ireturn rfl rfl
set_option maxRecDepth 20000 in
set_option maxHeartbeats 1000000 in
theorem t_X0_umbrellasSuiting_L4 (x1 : Int) : ∀ (n : Nat) (x2 : Int) (x3 : Int) (h : Hp), Z M_X0_umbrellasSuiting 0 0 4 [some (vr 19), some (vi x1), some (vi x2), some (vi x3)] [] h (f_X0_umbrellasSuiting_L4 x1 n x2 x3 h) := by
  intro n
  induction n with
  | zero => intro x2 x3 h; exact Z.nix
  | succ n ih =>
    intro x2 x3 h
    rw [f_X0_umbrellasSuiting_L4_s]
    refine z_iload_n rfl rfl ?_
    refine z_aload_n rfl rfl ?_
    refine z_getI rfl fl_X0_34 rfl kd_19 ?_
    refine z_icmp_ge rfl ?_ ?_
    · refine z_iload_n rfl rfl ?_
      exact z_ireturn rfl rfl
    · refine z_aload_n rfl rfl ?_
      refine z_iload_n rfl rfl ?_
      refine z_iload_n rfl rfl ?_
      refine z_V2i ko0 mv_X0_84 kd_19 (t_X0_suits _ _ _) rfl rfl rfl rfl rfl rfl (fun r1 h1 => ?_)
      refine z_if_eq rfl ?_ ?_
      · refine z_iinc rfl rfl rfl ?_
        refine z_goto rfl ?_
        refine Z.weak ?_ (ih _ _ _)
        exact wkL_c (wkL_c (wkL_c (wkL_c (wkL_nil _))))
      · refine z_iinc rfl rfl rfl ?_
        refine z_iinc rfl rfl rfl ?_
        refine z_goto rfl ?_
        refine Z.weak ?_ (ih _ _ _)
        exact wkL_c (wkL_c (wkL_c (wkL_c (wkL_nil _))))
set_option maxRecDepth 20000 in
set_option maxHeartbeats 1000000 in
theorem t_X0_umbrellasSuiting (x1 : Int) (h : Hp) : Ct M_X0_umbrellasSuiting [vr 19, vi x1] h (f_X0_umbrellasSuiting x1 h) := by
  refine Ct.mk ok_X0_umbrellasSuiting pl_X0_umbrellasSuiting rfl rfl ?_
  show Z M_X0_umbrellasSuiting 0 0 0 [some (vr 19), some (vi x1), none, none] [] h (f_X0_umbrellasSuiting x1 h)
  unfold f_X0_umbrellasSuiting
  refine z_iconst rfl rfl ?_
  refine z_istore_n rfl rfl ?_
  refine z_iconst rfl rfl ?_
  refine z_istore_n rfl rfl ?_
  refine Z.weak ?_ (t_X0_umbrellasSuiting_L4  _     fu _ _ _)
  · exact wkL_c (wkL_c (wkL_c (wkL_c (wkL_nil _))))
set_option maxRecDepth 20000 in
set_option maxHeartbeats 1000000 in
theorem t_X4_claimOf (x1 : Int) (x2 : Int) (h : Hp) : Ct M_X4_claimOf [vr 0, vi x1, vi x2] h (f_X4_claimOf x1 x2 h) := by
  refine Ct.mk ok_X4_claimOf pl_X4_claimOf rfl rfl ?_
  show Z M_X4_claimOf 0 0 0 [some (vr 0), some (vi x1), some (vi x2), none] [] h (f_X4_claimOf x1 x2 h)
  unfold f_X4_claimOf
  refine z_aload_n rfl rfl ?_
  refine z_getRn (m := 1) rfl fl_X4_10 rfl kd_0 rfl ?_
  refine z_getRn (m := 4) rfl fl_X4_116 rfl kd_1 rfl ?_
  refine z_iload_n rfl rfl ?_
  refine z_V1i ko2 mv_X4_93 kd_4 (t_X2_has 4 kd_4 _ _) rfl rfl rfl rfl rfl rfl (fun r1 h1 => ?_)
  refine z_if_eq rfl ?_ ?_
  · refine z_ldc rfl cst_X4_99 rfl ?_
    exact z_ireturn rfl rfl
  · refine z_iload_n rfl rfl ?_
    refine z_if_lt rfl ?_ ?_
    · refine z_ldc rfl cst_X4_99 rfl ?_
      exact z_ireturn rfl rfl
    · refine z_iload_n rfl rfl ?_
      refine z_bipush rfl rfl ?_
      refine z_icmp_le rfl ?_ ?_
      · refine z_iload_n rfl rfl ?_
        refine z_iconst rfl rfl ?_
        refine z_icmp_ge rfl ?_ ?_
        · refine z_iload_n rfl rfl ?_
          refine z_iconst rfl rfl ?_
          refine z_icmp_ne rfl ?_ ?_
          · refine z_iload_n rfl rfl ?_
            refine z_bipush rfl rfl ?_
            refine z_icmp_ne rfl ?_ ?_
            · refine z_aload_n rfl rfl ?_
              refine z_getRn (m := 19) rfl fl_X4_22 rfl kd_0 rfl ?_
              refine z_aload_n rfl rfl ?_
              refine z_getRn (m := 1) rfl fl_X4_10 rfl kd_0 rfl ?_
              refine z_V1v ko0 mv_X4_78 kd_19 (t_X0_matchAll 1 kd_1 _) rfl rfl rfl rfl rfl (fun _ h2 => ?_)
              refine z_iload_n rfl rfl ?_
              refine z_iconst rfl rfl ?_
              refine z_icmp_ne rfl ?_ ?_
              · refine z_aload_n rfl rfl ?_
                refine z_getRn (m := 19) rfl fl_X4_22 rfl kd_0 rfl ?_
                refine z_iload_n rfl rfl ?_
                refine z_V1i ko0 mv_X4_125 kd_19 (t_X0_umbrellasSuiting _ _) rfl rfl rfl rfl rfl rfl (fun r3 h3 => ?_)
                exact z_ireturn rfl rfl
              · refine z_aload_n rfl rfl ?_
                refine z_getRn (m := 19) rfl fl_X4_22 rfl kd_0 rfl ?_
                refine z_iload_n rfl rfl ?_
                refine z_V1i ko0 mv_X4_119 kd_19 (t_X0_umbrellaMatched _ _) rfl rfl rfl rfl rfl rfl (fun r4 h4 => ?_)
                refine z_S1i ms_X4_122 (t_X4_orNotFound _ _) rfl rfl rfl rfl rfl (fun r5 h5 => ?_)
                refine z_goto rfl ?_
                exact z_ireturn rfl rfl
            · refine z_aload_n rfl rfl ?_
              refine z_getRn (m := 1) rfl fl_X4_10 rfl kd_0 rfl ?_
              refine z_getRn (m := 4) rfl fl_X4_116 rfl kd_1 rfl ?_
              refine z_iload_n rfl rfl ?_
              refine z_iconst rfl rfl ?_
              refine z_V2i ko2 mv_X4_100 kd_4 (t_X2_cell 4 kd_4 _ _ _) rfl rfl rfl rfl rfl rfl (fun r6 h6 => ?_)
              exact z_ireturn rfl rfl
          · refine z_aload_n rfl rfl ?_
            refine z_getRn (m := 1) rfl fl_X4_10 rfl kd_0 rfl ?_
            refine z_getRn (m := 4) rfl fl_X4_116 rfl kd_1 rfl ?_
            refine z_iload_n rfl rfl ?_
            refine z_iconst rfl rfl ?_
            refine z_V2i ko2 mv_X4_100 kd_4 (t_X2_cell 4 kd_4 _ _ _) rfl rfl rfl rfl rfl rfl (fun r7 h7 => ?_)
            exact z_ireturn rfl rfl
        · refine z_aload_n rfl rfl ?_
          refine z_getRn (m := 1) rfl fl_X4_10 rfl kd_0 rfl ?_
          refine z_getRn (m := 4) rfl fl_X4_116 rfl kd_1 rfl ?_
          refine z_iload_n rfl rfl ?_
          refine z_iload_n rfl rfl ?_
          refine z_V2i ko2 mv_X4_100 kd_4 (t_X2_cell 4 kd_4 _ _ _) rfl rfl rfl rfl rfl rfl (fun r8 h8 => ?_)
          refine z_istore_n rfl rfl ?_
          refine z_iload_n rfl rfl ?_
          refine z_iconst rfl rfl ?_
          refine z_icmp_ne rfl ?_ ?_
          · refine z_iload_n rfl rfl ?_
            exact z_ireturn rfl rfl
          · refine z_ldc rfl cst_X4_112 rfl ?_
            refine z_goto rfl ?_
            exact z_ireturn rfl rfl
      · refine z_ldc rfl cst_X4_99 rfl ?_
        exact z_ireturn rfl rfl
set_option maxRecDepth 20000 in
set_option maxHeartbeats 1000000 in
theorem t_X4_having (x1 : Int) (x2 : Int) (h : Hp) : Ct M_X4_having [vr 0, vi x1, vi x2] h (f_X4_having x1 x2 h) := by
  refine Ct.mk ok_X4_having pl_X4_having rfl rfl ?_
  show Z M_X4_having 0 0 0 [some (vr 0), some (vi x1), some (vi x2)] [] h (f_X4_having x1 x2 h)
  unfold f_X4_having
  refine z_iload_n rfl rfl ?_
  refine z_S1i ms_X4_135 (t_X4_isDetail _ _) rfl rfl rfl rfl rfl (fun r1 h1 => ?_)
  refine z_if_eq rfl ?_ ?_
  · refine z_ldc rfl cst_X4_99 rfl ?_
    exact z_ireturn rfl rfl
  · refine z_iload_n rfl rfl ?_
    refine z_S1i ms_X4_138 (t_X4_isValue _ _) rfl rfl rfl rfl rfl (fun r2 h2 => ?_)
    refine z_if_ne rfl ?_ ?_
    · refine z_aload_n rfl rfl ?_
      refine z_getRn (m := 1) rfl fl_X4_10 rfl kd_0 rfl ?_
      refine z_iload_n rfl rfl ?_
      refine z_iload_n rfl rfl ?_
      refine z_V2i ko1 mv_X4_141 kd_1 (t_X1_umbrellasWith 1 kd_1 _ _ _) rfl rfl rfl rfl rfl rfl (fun r3 h3 => ?_)
      exact z_ireturn rfl rfl
    · refine z_ldc rfl cst_X4_99 rfl ?_
      exact z_ireturn rfl rfl
set_option maxRecDepth 20000 in
set_option maxHeartbeats 1000000 in
theorem t_X4_bitsOf_L6 (c20 : UInt32 → Int → Hp → Option (Int × Hp)) (hc20 : ∀ (y1 : UInt32) (y2 : Int) (h : Hp), Z M_X4_bitsOf 0 0 20 [none, some (vx (.float y1)), some (vi y2), none] [] h (c20 y1 y2 h)) : ∀ (n : Nat) (x1 : UInt32) (x2 : Int) (x3 : Int) (h : Hp), Z M_X4_bitsOf 0 0 6 [none, some (vx (.float x1)), some (vi x2), some (vi x3)] [] h (f_X4_bitsOf_L6 c20 n x1 x2 x3 h) := by
  intro n
  induction n with
  | zero => intro x1 x2 x3 h; exact Z.nix
  | succ n ih =>
    intro x1 x2 x3 h
    rw [f_X4_bitsOf_L6_s]
    refine z_iload_n rfl rfl ?_
    refine z_bipush rfl rfl ?_
    refine z_icmp_ge rfl ?_ ?_
    · refine Z.weak ?_ (hc20 _ _ _)
      exact wkL_n (wkL_c (wkL_c (wkL_n (wkL_nil _))))
    · refine z_fload_n rfl rfl ?_
      refine z_fconst2 rfl ?_
      refine z_fcmp rfl ?_
      refine z_if_lt rfl ?_ ?_
      · refine Z.weak ?_ (hc20 _ _ _)
        exact wkL_n (wkL_c (wkL_c (wkL_n (wkL_nil _))))
      · refine z_fload_n rfl rfl ?_
        refine z_fconst2 rfl ?_
        refine z_fdiv rfl ?_
        refine z_fstore_n rfl rfl ?_
        refine z_iinc rfl rfl rfl ?_
        refine z_iinc rfl rfl rfl ?_
        refine z_goto rfl ?_
        refine Z.weak ?_ (ih _ _ _ _)
        exact wkL_n (wkL_c (wkL_c (wkL_c (wkL_nil _))))
set_option maxRecDepth 20000 in
set_option maxHeartbeats 1000000 in
theorem t_X4_bitsOf (x0 : UInt32) (h : Hp) : Ct M_X4_bitsOf [vx (.float x0)] h (f_X4_bitsOf x0 h) := by
  refine Ct.mk ok_X4_bitsOf pl_X4_bitsOf rfl rfl ?_
  show Z M_X4_bitsOf 0 0 0 [some (vx (.float x0)), none, none, none] [] h (f_X4_bitsOf x0 h)
  unfold f_X4_bitsOf
  refine z_fload_n rfl rfl ?_
  refine z_fstore_n rfl rfl ?_
  refine z_bipush rfl rfl ?_
  refine z_istore_n rfl rfl ?_
  refine z_iconst rfl rfl ?_
  refine z_istore_n rfl rfl ?_
  refine Z.weak ?_ (t_X4_bitsOf_L6   _  ?_  fu _ _ _ _)
  · exact wkL_n (wkL_c (wkL_c (wkL_c (wkL_nil _))))
  · intro y1 y2 h3
    refine z_fload_n rfl rfl ?_
    refine z_fconst1 rfl ?_
    refine z_fsub rfl ?_
    refine z_ldcf cst_X4_215 rfl ?_
    refine z_fmul rfl ?_
    refine z_f2i rfl ?_
    refine z_istore_nL rfl rfl (fun y4 => ?_)
    refine z_iload_n rfl rfl ?_
    refine z_bipush rfl rfl ?_
    refine z_ishl rfl ?_
    refine z_iload_n rfl rfl ?_
    refine z_ior rfl ?_
    exact z_ireturn rfl rfl
set_option maxRecDepth 20000 in
set_option maxHeartbeats 1000000 in
theorem t_X0_worthOfMatched_L4  : ∀ (n : Nat) (x1 : Int) (x2 : Int) (h : Hp), Z M_X0_worthOfMatched 0 0 4 [some (vr 19), some (vi x1), some (vi x2), none] [] h (f_X0_worthOfMatched_L4  n x1 x2 h) := by
  intro n
  induction n with
  | zero => intro x1 x2 h; exact Z.nix
  | succ n ih =>
    intro x1 x2 h
    rw [f_X0_worthOfMatched_L4_s]
    refine z_iload_n rfl rfl ?_
    refine z_aload_n rfl rfl ?_
    refine z_getI rfl fl_X0_34 rfl kd_19 ?_
    refine z_icmp_ge rfl ?_ ?_
    · refine z_iload_n rfl rfl ?_
      exact z_ireturn rfl rfl
    · refine z_aload_n rfl rfl ?_
      refine z_iload_n rfl rfl ?_
      refine z_V1i ko0 mv_X0_102 kd_19 (t_X0_claimMatched _ _) rfl rfl rfl rfl rfl rfl (fun r1 h1 => ?_)
      refine z_istore_n rfl rfl ?_
      refine z_iload_n rfl rfl ?_
      refine z_iconst rfl rfl ?_
      refine z_icmp_eq rfl ?_ ?_
      · refine z_iinc rfl rfl rfl ?_
        refine z_goto rfl ?_
        refine Z.weak ?_ (ih _ _ _)
        exact wkL_c (wkL_c (wkL_c (wkL_n (wkL_nil _))))
      · refine z_iload_n rfl rfl ?_
        refine z_aload_n rfl rfl ?_
        refine z_iload_n rfl rfl ?_
        refine z_iload_n rfl rfl ?_
        refine z_V2i ko0 mv_X0_111 kd_19 (t_X0_worthOf _ _ _) rfl rfl rfl rfl rfl rfl (fun r2 h2 => ?_)
        refine z_iadd rfl ?_
        refine z_istore_nL rfl rfl (fun y3 => ?_)
        refine z_iinc rfl rfl rfl ?_
        refine z_goto rfl ?_
        refine Z.weak ?_ (ih _ _ _)
        exact wkL_c (wkL_c (wkL_c (wkL_n (wkL_nil _))))
set_option maxRecDepth 20000 in
set_option maxHeartbeats 1000000 in
theorem t_X0_worthOfMatched  (h : Hp) : Ct M_X0_worthOfMatched [vr 19] h (f_X0_worthOfMatched  h) := by
  refine Ct.mk ok_X0_worthOfMatched pl_X0_worthOfMatched rfl rfl ?_
  show Z M_X0_worthOfMatched 0 0 0 [some (vr 19), none, none, none] [] h (f_X0_worthOfMatched  h)
  unfold f_X0_worthOfMatched
  refine z_iconst rfl rfl ?_
  refine z_istore_n rfl rfl ?_
  refine z_iconst rfl rfl ?_
  refine z_istore_n rfl rfl ?_
  refine Z.weak ?_ (t_X0_worthOfMatched_L4      fu _ _ _)
  · exact wkL_c (wkL_c (wkL_c (wkL_n (wkL_nil _))))
set_option maxRecDepth 20000 in
set_option maxHeartbeats 1000000 in
theorem t_X4_mean  (h : Hp) : Ct M_X4_mean [vr 0] h (f_X4_mean  h) := by
  refine Ct.mk ok_X4_mean pl_X4_mean rfl rfl ?_
  show Z M_X4_mean 0 0 0 [some (vr 0), none] [] h (f_X4_mean  h)
  unfold f_X4_mean
  refine z_aload_n rfl rfl ?_
  refine z_getRn (m := 19) rfl fl_X4_22 rfl kd_0 rfl ?_
  refine z_aload_n rfl rfl ?_
  refine z_getRn (m := 1) rfl fl_X4_10 rfl kd_0 rfl ?_
  refine z_V1v ko0 mv_X4_78 kd_19 (t_X0_matchAll 1 kd_1 _) rfl rfl rfl rfl rfl (fun _ h1 => ?_)
  refine z_aload_n rfl rfl ?_
  refine z_getRn (m := 19) rfl fl_X4_22 rfl kd_0 rfl ?_
  refine z_getI rfl fl_X4_163 rfl kd_19 ?_
  refine z_istore_nL rfl rfl (fun y2 => ?_)
  refine z_iload_n rfl rfl ?_
  refine z_if_gt rfl ?_ ?_
  · refine z_aload_n rfl rfl ?_
    refine z_getRn (m := 19) rfl fl_X4_22 rfl kd_0 rfl ?_
    refine z_V0i ko0 mv_X4_166 kd_19 (t_X0_worthOfMatched  _) rfl rfl rfl rfl rfl rfl (fun r3 h3 => ?_)
    refine z_i2f rfl ?_
    refine z_iload_n rfl rfl ?_
    refine z_i2f rfl ?_
    refine z_fdiv rfl ?_
    refine z_S1i ms_X4_170 (t_X4_bitsOf _ _) rfl rfl rfl rfl rfl (fun r4 h4 => ?_)
    exact z_ireturn rfl rfl
  · refine z_ldc rfl cst_X4_112 rfl ?_
    exact z_ireturn rfl rfl
set_option maxRecDepth 20000 in
set_option maxHeartbeats 1000000 in
theorem t_X4_oddest_L6  : ∀ (n : Nat) (x1 : Int) (x2 : Int) (x3 : Int) (h : Hp), Z M_X4_oddest 0 0 6 [some (vr 0), some (vi x1), some (vi x2), some (vi x3), none] [] h (f_X4_oddest_L6  n x1 x2 x3 h) := by
  intro n
  induction n with
  | zero => intro x1 x2 x3 h; exact Z.nix
  | succ n ih =>
    intro x1 x2 x3 h
    rw [f_X4_oddest_L6_s]
    refine z_iload_n rfl rfl ?_
    refine z_aload_n rfl rfl ?_
    refine z_getRn (m := 1) rfl fl_X4_10 rfl kd_0 rfl ?_
    refine z_getRn (m := 2) rfl fl_X4_89 rfl kd_1 rfl ?_
    refine z_getI rfl fl_X4_147 rfl kd_2 ?_
    refine z_icmp_ge rfl ?_ ?_
    · refine z_iload_n rfl rfl ?_
      refine z_S1i ms_X4_122 (t_X4_orNotFound _ _) rfl rfl rfl rfl rfl (fun r1 h1 => ?_)
      exact z_ireturn rfl rfl
    · refine z_aload_n rfl rfl ?_
      refine z_getRn (m := 1) rfl fl_X4_10 rfl kd_0 rfl ?_
      refine z_iload_n rfl rfl ?_
      refine z_V1i ko1 mv_X4_103 kd_1 (t_X1_oddnessTogether 1 kd_1 _ _) rfl rfl rfl rfl rfl rfl (fun r2 h2 => ?_)
      refine z_istore rfl rfl ?_
      refine z_iload_n rfl rfl ?_
      refine z_iconst rfl rfl ?_
      refine z_icmp_eq rfl ?_ ?_
      · refine z_iload_n rfl rfl ?_
        refine z_istore_n rfl rfl ?_
        refine z_iload rfl rfl ?_
        refine z_istore_n rfl rfl ?_
        refine z_iinc rfl rfl rfl ?_
        refine z_goto rfl ?_
        refine Z.weak ?_ (ih _ _ _ _)
        exact wkL_c (wkL_c (wkL_c (wkL_c (wkL_n (wkL_nil _)))))
      · refine z_iload rfl rfl ?_
        refine z_iload_n rfl rfl ?_
        refine z_icmp_le rfl ?_ ?_
        · refine z_iinc rfl rfl rfl ?_
          refine z_goto rfl ?_
          refine Z.weak ?_ (ih _ _ _ _)
          exact wkL_c (wkL_c (wkL_c (wkL_c (wkL_n (wkL_nil _)))))
        · refine z_iload_n rfl rfl ?_
          refine z_istore_n rfl rfl ?_
          refine z_iload rfl rfl ?_
          refine z_istore_n rfl rfl ?_
          refine z_iinc rfl rfl rfl ?_
          refine z_goto rfl ?_
          refine Z.weak ?_ (ih _ _ _ _)
          exact wkL_c (wkL_c (wkL_c (wkL_c (wkL_n (wkL_nil _)))))
set_option maxRecDepth 20000 in
set_option maxHeartbeats 1000000 in
theorem t_X4_oddest  (h : Hp) : Ct M_X4_oddest [vr 0] h (f_X4_oddest  h) := by
  refine Ct.mk ok_X4_oddest pl_X4_oddest rfl rfl ?_
  show Z M_X4_oddest 0 0 0 [some (vr 0), none, none, none, none] [] h (f_X4_oddest  h)
  unfold f_X4_oddest
  refine z_iconst rfl rfl ?_
  refine z_istore_n rfl rfl ?_
  refine z_iconst rfl rfl ?_
  refine z_istore_n rfl rfl ?_
  refine z_iconst rfl rfl ?_
  refine z_istore_n rfl rfl ?_
  refine Z.weak ?_ (t_X4_oddest_L6      fu _ _ _ _)
  · exact wkL_c (wkL_c (wkL_c (wkL_c (wkL_n (wkL_nil _)))))
set_option maxRecDepth 20000 in
set_option maxHeartbeats 1000000 in
theorem t_X4_isPair (x1 : Int) (x2 : Int) (h : Hp) : Ct M_X4_isPair [vr 0, vi x1, vi x2] h (f_X4_isPair x1 x2 h) := by
  refine Ct.mk ok_X4_isPair pl_X4_isPair rfl rfl ?_
  show Z M_X4_isPair 0 0 0 [some (vr 0), some (vi x1), some (vi x2)] [] h (f_X4_isPair x1 x2 h)
  unfold f_X4_isPair
  refine z_aload_n rfl rfl ?_
  refine z_getRn (m := 1) rfl fl_X4_10 rfl kd_0 rfl ?_
  refine z_getRn (m := 2) rfl fl_X4_89 rfl kd_1 rfl ?_
  refine z_iload_n rfl rfl ?_
  refine z_V1i ko2 mv_X4_93 kd_2 (t_X2_has 2 kd_2 _ _) rfl rfl rfl rfl rfl rfl (fun r1 h1 => ?_)
  refine z_if_eq rfl ?_ ?_
  · refine z_iconst rfl rfl ?_
    exact z_zret0 rfl rfl
  · refine z_aload_n rfl rfl ?_
    refine z_getRn (m := 1) rfl fl_X4_10 rfl kd_0 rfl ?_
    refine z_getRn (m := 4) rfl fl_X4_116 rfl kd_1 rfl ?_
    refine z_iload_n rfl rfl ?_
    refine z_V1i ko2 mv_X4_93 kd_4 (t_X2_has 4 kd_4 _ _) rfl rfl rfl rfl rfl rfl (fun r2 h2 => ?_)
    refine z_if_eq rfl ?_ ?_
    · refine z_iconst rfl rfl ?_
      exact z_zret0 rfl rfl
    · refine z_iconst rfl rfl ?_
      refine z_goto rfl ?_
      exact z_zret1 rfl rfl
set_option maxRecDepth 20000 in
set_option maxHeartbeats 1000000 in
theorem t_X4_points (x1 : Int) (x2 : Int) (h : Hp) : Ct M_X4_points [vr 0, vi x1, vi x2] h (f_X4_points x1 x2 h) := by
  refine Ct.mk ok_X4_points pl_X4_points rfl rfl ?_
  show Z M_X4_points 0 0 0 [some (vr 0), some (vi x1), some (vi x2)] [] h (f_X4_points x1 x2 h)
  unfold f_X4_points
  refine z_aload_n rfl rfl ?_
  refine z_iload_n rfl rfl ?_
  refine z_iload_n rfl rfl ?_
  refine z_V2i ko4 mv_X4_128 kd_0 (t_X4_isPair _ _ _) rfl rfl rfl rfl rfl rfl (fun r1 h1 => ?_)
  refine z_if_ne rfl ?_ ?_
  · refine z_aload_n rfl rfl ?_
    refine z_getRn (m := 19) rfl fl_X4_22 rfl kd_0 rfl ?_
    refine z_aload_n rfl rfl ?_
    refine z_getRn (m := 1) rfl fl_X4_10 rfl kd_0 rfl ?_
    refine z_V1v ko0 mv_X4_132 kd_19 (t_X0_weighAll 1 kd_1 _) rfl rfl rfl rfl rfl (fun _ h2 => ?_)
    refine z_sipush rfl rfl ?_
    refine z_aload_n rfl rfl ?_
    refine z_getRn (m := 19) rfl fl_X4_22 rfl kd_0 rfl ?_
    refine z_iload_n rfl rfl ?_
    refine z_iload_n rfl rfl ?_
    refine z_V2i ko0 mv_X4_113 kd_19 (t_X0_worthOf _ _ _) rfl rfl rfl rfl rfl rfl (fun r3 h3 => ?_)
    refine z_iadd rfl ?_
    exact z_ireturn rfl rfl
  · refine z_ldc rfl cst_X4_99 rfl ?_
    exact z_ireturn rfl rfl
set_option maxRecDepth 20000 in
set_option maxHeartbeats 1000000 in
theorem t_X0_reasonAgainst (x1 : Int) (x2 : Int) (x3 : Nat) (k3 : kd x3 = (1, 0)) (h : Hp) : Ct M_X0_reasonAgainst [vr 19, vi x1, vi x2, vr x3] h (f_X0_reasonAgainst x1 x2 x3 h) := by
  refine Ct.mk ok_X0_reasonAgainst pl_X0_reasonAgainst rfl rfl ?_
  show Z M_X0_reasonAgainst 0 0 0 [some (vr 19), some (vi x1), some (vi x2), some (vr x3), none, none] [] h (f_X0_reasonAgainst x1 x2 x3 h)
  unfold f_X0_reasonAgainst
  refine z_aload_n rfl rfl ?_
  refine z_iload_n rfl rfl ?_
  refine z_iload_n rfl rfl ?_
  refine z_V2i ko0 mv_X0_81 kd_19 (t_X0_pairOf _ _ _) rfl rfl rfl rfl rfl rfl (fun r1 h1 => ?_)
  refine z_istore rfl rfl ?_
  refine z_aload_n rfl rfl ?_
  refine z_iload_n rfl rfl ?_
  refine z_V1i ko0 mv_X0_102 kd_19 (t_X0_claimMatched _ _) rfl rfl rfl rfl rfl rfl (fun r2 h2 => ?_)
  refine z_istore rfl rfl ?_
  refine z_iload rfl rfl ?_
  refine z_if_lt rfl ?_ ?_
  · refine z_iconst rfl rfl ?_
    exact z_ireturn rfl rfl
  · refine z_iload rfl rfl ?_
    refine z_sipush rfl rfl ?_
    refine z_icmp_ge rfl ?_ ?_
    · refine z_iconst rfl rfl ?_
      exact z_ireturn rfl rfl
    · refine z_iload rfl rfl ?_
      refine z_iload_n rfl rfl ?_
      refine z_icmp_ne rfl ?_ ?_
      · refine z_aload_n rfl rfl ?_
        refine z_getRn (m := 20) rfl fl_X0_9 rfl kd_19 rfl ?_
        refine z_iload rfl rfl ?_
        refine z_iaload rfl kd_20 ?_
        refine z_aload_n rfl rfl ?_
        refine z_iconst rfl rfl ?_
        refine z_V1i ko1 mv_X0_77 k3 (t_X1_setting x3 k3 _ _) rfl rfl rfl rfl rfl rfl (fun r3 h3 => ?_)
        refine z_icmp_le rfl ?_ ?_
        · refine z_aload_n rfl rfl ?_
          refine z_getRn (m := 22) rfl fl_X0_18 rfl kd_19 rfl ?_
          refine z_iload rfl rfl ?_
          refine z_baload rfl kd_22 ?_
          refine z_if_ne rfl ?_ ?_
          · refine z_aload_n rfl rfl ?_
            refine z_aload_n rfl rfl ?_
            refine z_iload_n rfl rfl ?_
            refine z_iload rfl rfl ?_
            refine z_V2i ko0 mv_X0_81 kd_19 (t_X0_pairOf _ _ _) rfl rfl rfl rfl rfl rfl (fun r4 h4 => ?_)
            refine z_iload rfl rfl ?_
            refine z_V2i ko0 mv_X0_108 kd_19 (t_X0_aheadOf _ _ _) rfl rfl rfl rfl rfl rfl (fun r5 h5 => ?_)
            refine z_iload rfl rfl ?_
            refine z_icmp_ne rfl ?_ ?_
            · refine z_iconst rfl rfl ?_
              exact z_ireturn rfl rfl
            · refine z_iconst rfl rfl ?_
              refine z_goto rfl ?_
              exact z_ireturn rfl rfl
          · refine z_iconst rfl rfl ?_
            exact z_ireturn rfl rfl
        · refine z_iconst rfl rfl ?_
          exact z_ireturn rfl rfl
      · refine z_iconst rfl rfl ?_
        exact z_ireturn rfl rfl
set_option maxRecDepth 20000 in
set_option maxHeartbeats 1000000 in
theorem t_X4_why (x1 : Int) (x2 : Int) (h : Hp) : Ct M_X4_why [vr 0, vi x1, vi x2] h (f_X4_why x1 x2 h) := by
  refine Ct.mk ok_X4_why pl_X4_why rfl rfl ?_
  show Z M_X4_why 0 0 0 [some (vr 0), some (vi x1), some (vi x2)] [] h (f_X4_why x1 x2 h)
  unfold f_X4_why
  refine z_aload_n rfl rfl ?_
  refine z_iload_n rfl rfl ?_
  refine z_iload_n rfl rfl ?_
  refine z_V2i ko4 mv_X4_128 kd_0 (t_X4_isPair _ _ _) rfl rfl rfl rfl rfl rfl (fun r1 h1 => ?_)
  refine z_if_ne rfl ?_ ?_
  · refine z_aload_n rfl rfl ?_
    refine z_getRn (m := 19) rfl fl_X4_22 rfl kd_0 rfl ?_
    refine z_aload_n rfl rfl ?_
    refine z_getRn (m := 1) rfl fl_X4_10 rfl kd_0 rfl ?_
    refine z_V1v ko0 mv_X4_78 kd_19 (t_X0_matchAll 1 kd_1 _) rfl rfl rfl rfl rfl (fun _ h2 => ?_)
    refine z_aload_n rfl rfl ?_
    refine z_getRn (m := 19) rfl fl_X4_22 rfl kd_0 rfl ?_
    refine z_iload_n rfl rfl ?_
    refine z_iload_n rfl rfl ?_
    refine z_aload_n rfl rfl ?_
    refine z_getRn (m := 1) rfl fl_X4_10 rfl kd_0 rfl ?_
    refine z_V3i ko0 mv_X4_150 kd_19 (t_X0_reasonAgainst _ _ 1 kd_1 _) rfl rfl rfl rfl rfl rfl (fun r3 h3 => ?_)
    exact z_ireturn rfl rfl
  · refine z_ldc rfl cst_X4_99 rfl ?_
    exact z_ireturn rfl rfl
set_option maxRecDepth 20000 in
set_option maxHeartbeats 1000000 in
theorem t_X4_ifTold (x1 : Int) (x2 : Int) (x3 : Int) (h : Hp) : Ct M_X4_ifTold [vr 0, vi x1, vi x2, vi x3] h (f_X4_ifTold x1 x2 x3 h) := by
  refine Ct.mk ok_X4_ifTold pl_X4_ifTold rfl rfl ?_
  show Z M_X4_ifTold 0 0 0 [some (vr 0), some (vi x1), some (vi x2), some (vi x3), none] [] h (f_X4_ifTold x1 x2 x3 h)
  unfold f_X4_ifTold
  refine z_aload_n rfl rfl ?_
  refine z_getRn (m := 10) rfl fl_X4_16 rfl kd_0 rfl ?_
  refine z_aload_n rfl rfl ?_
  refine z_getRn (m := 1) rfl fl_X4_10 rfl kd_0 rfl ?_
  refine z_V1v ko1 mv_X4_154 kd_10 (t_X1_become 10 kd_10 1 kd_1 _) rfl rfl rfl rfl rfl (fun _ h1 => ?_)
  refine z_aload_n rfl rfl ?_
  refine z_getRn (m := 10) rfl fl_X4_16 rfl kd_0 rfl ?_
  refine z_iload_n rfl rfl ?_
  refine z_iload_n rfl rfl ?_
  refine z_iload_n rfl rfl ?_
  refine z_V3i ko1 mv_X4_67 kd_10 (t_X1_noteDetail 10 kd_10 _ _ _ _) rfl rfl rfl rfl rfl rfl (fun r2 h2 => ?_)
  refine z_istore rfl rfl ?_
  refine z_iload rfl rfl ?_
  refine z_if_ge rfl ?_ ?_
  · refine z_aload_n rfl rfl ?_
    refine z_getRn (m := 19) rfl fl_X4_22 rfl kd_0 rfl ?_
    refine z_aload_n rfl rfl ?_
    refine z_getRn (m := 10) rfl fl_X4_16 rfl kd_0 rfl ?_
    refine z_V1v ko0 mv_X4_78 kd_19 (t_X0_matchAll 10 kd_10 _) rfl rfl rfl rfl rfl (fun _ h3 => ?_)
    refine z_aload_n rfl rfl ?_
    refine z_getRn (m := 19) rfl fl_X4_22 rfl kd_0 rfl ?_
    refine z_iload_n rfl rfl ?_
    refine z_V1i ko0 mv_X4_119 kd_19 (t_X0_umbrellaMatched _ _) rfl rfl rfl rfl rfl rfl (fun r4 h4 => ?_)
    refine z_S1i ms_X4_122 (t_X4_orNotFound _ _) rfl rfl rfl rfl rfl (fun r5 h5 => ?_)
    exact z_ireturn rfl rfl
  · refine z_iload rfl rfl ?_
    exact z_ireturn rfl rfl
set_option maxRecDepth 20000 in
set_option maxHeartbeats 1000000 in
theorem t_X4_ifWeeks (x1 : Int) (x2 : Int) (h : Hp) : Ct M_X4_ifWeeks [vr 0, vi x1, vi x2] h (f_X4_ifWeeks x1 x2 h) := by
  refine Ct.mk ok_X4_ifWeeks pl_X4_ifWeeks rfl rfl ?_
  show Z M_X4_ifWeeks 0 0 0 [some (vr 0), some (vi x1), some (vi x2)] [] h (f_X4_ifWeeks x1 x2 h)
  unfold f_X4_ifWeeks
  refine z_iload_n rfl rfl ?_
  refine z_S1i ms_X4_157 (t_X4_isWeeksAtOnce _ _) rfl rfl rfl rfl rfl (fun r1 h1 => ?_)
  refine z_if_eq rfl ?_ ?_
  · refine z_ldc rfl cst_X4_99 rfl ?_
    exact z_ireturn rfl rfl
  · refine z_iload_n rfl rfl ?_
    refine z_if_lt rfl ?_ ?_
    · refine z_ldc rfl cst_X4_99 rfl ?_
      exact z_ireturn rfl rfl
    · refine z_iload_n rfl rfl ?_
      refine z_iconst rfl rfl ?_
      refine z_icmp_le rfl ?_ ?_
      · refine z_aload_n rfl rfl ?_
        refine z_getRn (m := 10) rfl fl_X4_16 rfl kd_0 rfl ?_
        refine z_aload_n rfl rfl ?_
        refine z_getRn (m := 1) rfl fl_X4_10 rfl kd_0 rfl ?_
        refine z_V1v ko1 mv_X4_154 kd_10 (t_X1_become 10 kd_10 1 kd_1 _) rfl rfl rfl rfl rfl (fun _ h2 => ?_)
        refine z_aload_n rfl rfl ?_
        refine z_getRn (m := 10) rfl fl_X4_16 rfl kd_0 rfl ?_
        refine z_iload_n rfl rfl ?_
        refine z_sipush rfl rfl ?_
        refine z_V2i ko1 mv_X4_74 kd_10 (t_X1_passWeeks 10 kd_10 _ _ _) rfl rfl rfl rfl rfl rfl (fun r3 h3 => ?_)
        refine z_pop rfl rfl ?_
        refine z_iload_n rfl rfl ?_
        refine z_if_ne rfl ?_ ?_
        · refine z_iload_n rfl rfl ?_
          refine z_iconst rfl rfl ?_
          refine z_icmp_ne rfl ?_ ?_
          · refine z_aload_n rfl rfl ?_
            refine z_getRn (m := 19) rfl fl_X4_22 rfl kd_0 rfl ?_
            refine z_aload_n rfl rfl ?_
            refine z_getRn (m := 10) rfl fl_X4_16 rfl kd_0 rfl ?_
            refine z_V1v ko0 mv_X4_78 kd_19 (t_X0_matchAll 10 kd_10 _) rfl rfl rfl rfl rfl (fun _ h4 => ?_)
            refine z_aload_n rfl rfl ?_
            refine z_getRn (m := 19) rfl fl_X4_22 rfl kd_0 rfl ?_
            refine z_getI rfl fl_X4_163 rfl kd_19 ?_
            exact z_ireturn rfl rfl
          · refine z_aload_n rfl rfl ?_
            refine z_getRn (m := 10) rfl fl_X4_16 rfl kd_0 rfl ?_
            refine z_bipush rfl rfl ?_
            refine z_V1i ko1 mv_X4_160 kd_10 (t_X1_sum 10 kd_10 _ _) rfl rfl rfl rfl rfl rfl (fun r5 h5 => ?_)
            refine z_aload_n rfl rfl ?_
            refine z_getRn (m := 1) rfl fl_X4_10 rfl kd_0 rfl ?_
            refine z_bipush rfl rfl ?_
            refine z_V1i ko1 mv_X4_160 kd_1 (t_X1_sum 1 kd_1 _ _) rfl rfl rfl rfl rfl rfl (fun r6 h6 => ?_)
            refine z_isub rfl ?_
            exact z_ireturn rfl rfl
        · refine z_aload_n rfl rfl ?_
          refine z_getRn (m := 10) rfl fl_X4_16 rfl kd_0 rfl ?_
          refine z_bipush rfl rfl ?_
          refine z_V1i ko1 mv_X4_160 kd_10 (t_X1_sum 10 kd_10 _ _) rfl rfl rfl rfl rfl rfl (fun r7 h7 => ?_)
          refine z_aload_n rfl rfl ?_
          refine z_getRn (m := 1) rfl fl_X4_10 rfl kd_0 rfl ?_
          refine z_bipush rfl rfl ?_
          refine z_V1i ko1 mv_X4_160 kd_1 (t_X1_sum 1 kd_1 _ _) rfl rfl rfl rfl rfl rfl (fun r8 h8 => ?_)
          refine z_isub rfl ?_
          exact z_ireturn rfl rfl
      · refine z_ldc rfl cst_X4_99 rfl ?_
        exact z_ireturn rfl rfl
