/-! printed by wip/gen/gen.py: the bytecode does what the functions say -/
set_option maxRecDepth 20000 in
set_option maxHeartbeats 1000000 in
theorem t_X3_readOrder (x1 : Int) (h : Hp) : Ct M_X3_readOrder [vr 28, vi x1] h (f_X3_readOrder x1 h) := by
  refine Ct.mk ok_X3_readOrder pl_X3_readOrder rfl rfl ?_
  show Z M_X3_readOrder 0 [some (vr 28), some (vi x1)] [] h (f_X3_readOrder x1 h)
  unfold f_X3_readOrder
  refine z_aload_n rfl rfl ?_
  refine z_iload_n rfl rfl ?_
  refine z_putL fi_X3_19 rfl kd_28 rfl (fun h1 => ?_)
  refine z_aload_n rfl rfl ?_
  refine z_V0i ko3 mv_X3_33 kd_28 (t_X3_signHere  _) rfl rfl rfl rfl rfl (fun r2 h2 => ?_)
  refine Z.ite (fun e7 => ?_) (fun e7 => ?_)
  · refine z_look (tg := 26) rfl rfl (o := 89) (by rw [e7]; rfl) rfl ?_
    refine z_aload_n rfl rfl ?_
    refine z_iconst rfl rfl ?_
    refine z_putL fi_X3_22 rfl kd_28 rfl (fun h3 => ?_)
    refine z_aload_n rfl rfl ?_
    refine z_ldcS rfl (fun _ _ _ w => w.2.2.1.2.1) ?_
    refine z_V1i ko3 mv_X3_39 kd_28 (t_X3_readWord 88 6 kd_88 _) rfl rfl rfl rfl rfl (fun r4 h4 => ?_)
    refine z_if_eq rfl ?_ ?_
    · refine z_iconst rfl rfl ?_
      exact z_zret0 rfl rfl
    · refine z_aload_n rfl rfl ?_
      refine z_iconst rfl rfl ?_
      refine z_iconst rfl rfl ?_
      refine z_V2i ko3 mv_X3_43 kd_28 (t_X3_readNumbers _ _ _) rfl rfl rfl rfl rfl (fun r5 h5 => ?_)
      refine z_if_eq rfl ?_ ?_
      · refine z_iconst rfl rfl ?_
        exact z_zret0 rfl rfl
      · refine z_aload_n rfl rfl ?_
        refine z_bipush rfl rfl ?_
        refine z_V1i ko3 mv_X3_47 kd_28 (t_X3_readSign _ _) rfl rfl rfl rfl rfl (fun r6 h6 => ?_)
        refine z_if_eq rfl ?_ ?_
        · refine z_iconst rfl rfl ?_
          exact z_zret0 rfl rfl
        · refine z_iconst rfl rfl ?_
          refine z_goto rfl ?_
          exact z_zret1 rfl rfl
  refine Z.ite (fun e12 => ?_) (fun e12 => ?_)
  · refine z_look (tg := 6) rfl rfl (o := 51) (by rw [e12]; rfl) rfl ?_
    refine z_aload_n rfl rfl ?_
    refine z_iconst rfl rfl ?_
    refine z_putL fi_X3_22 rfl kd_28 rfl (fun h8 => ?_)
    refine z_aload_n rfl rfl ?_
    refine z_ldcS rfl (fun _ _ _ w => w.2.2.1.1) ?_
    refine z_V1i ko3 mv_X3_39 kd_28 (t_X3_readWord 87 5 kd_87 _) rfl rfl rfl rfl rfl (fun r9 h9 => ?_)
    refine z_if_eq rfl ?_ ?_
    · refine z_iconst rfl rfl ?_
      exact z_zret0 rfl rfl
    · refine z_aload_n rfl rfl ?_
      refine z_iconst rfl rfl ?_
      refine z_iconst rfl rfl ?_
      refine z_V2i ko3 mv_X3_43 kd_28 (t_X3_readNumbers _ _ _) rfl rfl rfl rfl rfl (fun r10 h10 => ?_)
      refine z_if_eq rfl ?_ ?_
      · refine z_iconst rfl rfl ?_
        exact z_zret0 rfl rfl
      · refine z_aload_n rfl rfl ?_
        refine z_bipush rfl rfl ?_
        refine z_V1i ko3 mv_X3_47 kd_28 (t_X3_readSign _ _) rfl rfl rfl rfl rfl (fun r11 h11 => ?_)
        refine z_if_eq rfl ?_ ?_
        · refine z_iconst rfl rfl ?_
          exact z_zret0 rfl rfl
        · refine z_iconst rfl rfl ?_
          refine z_goto rfl ?_
          exact z_zret1 rfl rfl
  refine Z.ite (fun e16 => ?_) (fun e16 => ?_)
  · refine z_look (tg := 86) rfl rfl (o := 203) (by rw [e16]; rfl) rfl ?_
    refine z_aload_n rfl rfl ?_
    refine z_iconst rfl rfl ?_
    refine z_putL fi_X3_22 rfl kd_28 rfl (fun h13 => ?_)
    refine z_aload_n rfl rfl ?_
    refine z_ldcS rfl (fun _ _ _ w => w.2.2.1.2.2.2.2) ?_
    refine z_V1i ko3 mv_X3_39 kd_28 (t_X3_readWord 91 4 kd_91 _) rfl rfl rfl rfl rfl (fun r14 h14 => ?_)
    refine z_if_eq rfl ?_ ?_
    · refine z_iconst rfl rfl ?_
      exact z_zret0 rfl rfl
    · refine z_aload_n rfl rfl ?_
      refine z_bipush rfl rfl ?_
      refine z_V1i ko3 mv_X3_47 kd_28 (t_X3_readSign _ _) rfl rfl rfl rfl rfl (fun r15 h15 => ?_)
      refine z_if_eq rfl ?_ ?_
      · refine z_iconst rfl rfl ?_
        exact z_zret0 rfl rfl
      · refine z_iconst rfl rfl ?_
        refine z_goto rfl ?_
        exact z_zret1 rfl rfl
  refine Z.ite (fun e21 => ?_) (fun e21 => ?_)
  · refine z_look (tg := 46) rfl rfl (o := 127) (by rw [e21]; rfl) rfl ?_
    refine z_aload_n rfl rfl ?_
    refine z_iconst rfl rfl ?_
    refine z_putL fi_X3_22 rfl kd_28 rfl (fun h17 => ?_)
    refine z_aload_n rfl rfl ?_
    refine z_ldcS rfl (fun _ _ _ w => w.2.2.1.2.2.1) ?_
    refine z_V1i ko3 mv_X3_39 kd_28 (t_X3_readWord 89 5 kd_89 _) rfl rfl rfl rfl rfl (fun r18 h18 => ?_)
    refine z_if_eq rfl ?_ ?_
    · refine z_iconst rfl rfl ?_
      exact z_zret0 rfl rfl
    · refine z_aload_n rfl rfl ?_
      refine z_iconst rfl rfl ?_
      refine z_iconst rfl rfl ?_
      refine z_V2i ko3 mv_X3_43 kd_28 (t_X3_readNumbers _ _ _) rfl rfl rfl rfl rfl (fun r19 h19 => ?_)
      refine z_if_eq rfl ?_ ?_
      · refine z_iconst rfl rfl ?_
        exact z_zret0 rfl rfl
      · refine z_aload_n rfl rfl ?_
        refine z_bipush rfl rfl ?_
        refine z_V1i ko3 mv_X3_47 kd_28 (t_X3_readSign _ _) rfl rfl rfl rfl rfl (fun r20 h20 => ?_)
        refine z_if_eq rfl ?_ ?_
        · refine z_iconst rfl rfl ?_
          exact z_zret0 rfl rfl
        · refine z_iconst rfl rfl ?_
          refine z_goto rfl ?_
          exact z_zret1 rfl rfl
  refine Z.ite (fun e26 => ?_) (fun e26 => ?_)
  · refine z_look (tg := 66) rfl rfl (o := 165) (by rw [e26]; rfl) rfl ?_
    refine z_aload_n rfl rfl ?_
    refine z_iconst rfl rfl ?_
    refine z_putL fi_X3_22 rfl kd_28 rfl (fun h22 => ?_)
    refine z_aload_n rfl rfl ?_
    refine z_ldcS rfl (fun _ _ _ w => w.2.2.1.2.2.2.1) ?_
    refine z_V1i ko3 mv_X3_39 kd_28 (t_X3_readWord 90 5 kd_90 _) rfl rfl rfl rfl rfl (fun r23 h23 => ?_)
    refine z_if_eq rfl ?_ ?_
    · refine z_iconst rfl rfl ?_
      exact z_zret0 rfl rfl
    · refine z_aload_n rfl rfl ?_
      refine z_iconst rfl rfl ?_
      refine z_iconst rfl rfl ?_
      refine z_V2i ko3 mv_X3_43 kd_28 (t_X3_readNumbers _ _ _) rfl rfl rfl rfl rfl (fun r24 h24 => ?_)
      refine z_if_eq rfl ?_ ?_
      · refine z_iconst rfl rfl ?_
        exact z_zret0 rfl rfl
      · refine z_aload_n rfl rfl ?_
        refine z_bipush rfl rfl ?_
        refine z_V1i ko3 mv_X3_47 kd_28 (t_X3_readSign _ _) rfl rfl rfl rfl rfl (fun r25 h25 => ?_)
        refine z_if_eq rfl ?_ ?_
        · refine z_iconst rfl rfl ?_
          exact z_zret0 rfl rfl
        · refine z_iconst rfl rfl ?_
          refine z_goto rfl ?_
          exact z_zret1 rfl rfl
  refine z_look (tg := 101) rfl rfl (o := 232) (by simp only [Op.lookupswitch.offset]; rw [if_neg (fun q => e7 q.symm)]; rw [if_neg (fun q => e12 q.symm)]; rw [if_neg (fun q => e16 q.symm)]; rw [if_neg (fun q => e21 q.symm)]; rw [if_neg (fun q => e26 q.symm)]) rfl ?_
  refine z_iconst rfl rfl ?_
  exact z_zret0 rfl rfl
set_option maxRecDepth 20000 in
set_option maxHeartbeats 1000000 in
theorem t_X4_bitsOf_L6 (c20 : UInt32 → Int → Hp → Option (Int × Hp)) (hc20 : ∀ (y1 : UInt32) (y2 : Int) (h : Hp), Z M_X4_bitsOf 20 [none, some (vx (.float y1)), some (vi y2), none] [] h (c20 y1 y2 h)) : ∀ (n : Nat) (x1 : UInt32) (x2 : Int) (x3 : Int) (h : Hp), Z M_X4_bitsOf 6 [none, some (vx (.float x1)), some (vi x2), some (vi x3)] [] h (f_X4_bitsOf_L6 c20 n x1 x2 x3 h) := by
  intro n
  induction n with
  | zero => intro x1 x2 x3 h; exact Z.nix
  | succ n ih =>
    intro x1 x2 x3 h
    rw [f_X4_bitsOf_L6_s]
    refine z_iload_n rfl rfl ?_
    refine z_bipush rfl rfl ?_
    refine z_icmp_ge rfl ?_ ?_
    · refine Z.weak ?_ (hc20 _ _ _)
      exact wkL_n (wkL_c (wkL_c (wkL_n (wkL_nil _))))
    · refine z_fload_n rfl rfl ?_
      refine z_fconst2 rfl ?_
      refine z_fcmp rfl ?_
      refine z_if_lt rfl ?_ ?_
      · refine Z.weak ?_ (hc20 _ _ _)
        exact wkL_n (wkL_c (wkL_c (wkL_n (wkL_nil _))))
      · refine z_fload_n rfl rfl ?_
        refine z_fconst2 rfl ?_
        refine z_fdiv rfl ?_
        refine z_fstore_n rfl rfl ?_
        refine z_iinc rfl rfl rfl ?_
        refine z_iinc rfl rfl rfl ?_
        refine z_goto rfl ?_
        refine Z.weak ?_ (ih _ _ _ _)
        exact wkL_n (wkL_c (wkL_c (wkL_c (wkL_nil _))))
set_option maxRecDepth 20000 in
set_option maxHeartbeats 1000000 in
theorem t_X4_bitsOf (x0 : UInt32) (h : Hp) : Ct M_X4_bitsOf [vx (.float x0)] h (f_X4_bitsOf x0 h) := by
  refine Ct.mk ok_X4_bitsOf pl_X4_bitsOf rfl rfl ?_
  show Z M_X4_bitsOf 0 [some (vx (.float x0)), none, none, none] [] h (f_X4_bitsOf x0 h)
  unfold f_X4_bitsOf
  refine z_fload_n rfl rfl ?_
  refine z_fstore_n rfl rfl ?_
  refine z_bipush rfl rfl ?_
  refine z_istore_n rfl rfl ?_
  refine z_iconst rfl rfl ?_
  refine z_istore_n rfl rfl ?_
  refine Z.weak ?_ (t_X4_bitsOf_L6   _  ?_  fu _ _ _ _)
  · exact wkL_n (wkL_c (wkL_c (wkL_c (wkL_nil _))))
  · intro y1 y2 h3
    refine z_fload_n rfl rfl ?_
    refine z_fconst1 rfl ?_
    refine z_fsub rfl ?_
    refine z_ldcf cst_X4_215 rfl ?_
    refine z_fmul rfl ?_
    refine z_f2i rfl ?_
    refine z_istore_nL rfl rfl (fun y4 => ?_)
    refine z_iload_n rfl rfl ?_
    refine z_bipush rfl rfl ?_
    refine z_ishl rfl ?_
    refine z_iload_n rfl rfl ?_
    refine z_ior rfl ?_
    exact z_ireturn rfl rfl
set_option maxRecDepth 20000 in
set_option maxHeartbeats 1000000 in
theorem t_X4_book (x1 : Int) (x2 : Int) (h : Hp) : Ct M_X4_book [vr 0, vi x1, vi x2] h (f_X4_book x1 x2 h) := by
  refine Ct.mk ok_X4_book pl_X4_book rfl rfl ?_
  show Z M_X4_book 0 [some (vr 0), some (vi x1), some (vi x2), none] [] h (f_X4_book x1 x2 h)
  unfold f_X4_book
  refine z_iload_n rfl rfl ?_
  refine z_if_lt rfl ?_ ?_
  · refine z_ldc rfl cst_X4_99 rfl ?_
    exact z_ireturn rfl rfl
  · refine z_iload_n rfl rfl ?_
    refine z_if_lt rfl ?_ ?_
    · refine z_ldc rfl cst_X4_99 rfl ?_
      exact z_ireturn rfl rfl
    · refine z_iload_n rfl rfl ?_
      refine z_iconst rfl rfl ?_
      refine z_icmp_lt rfl ?_ ?_
      · refine z_aload_n rfl rfl ?_
        refine z_getRn (m := 1) rfl fl_X4_10 rfl kd_0 rfl ?_
        refine z_getRn (m := 6) rfl fl_X4_144 rfl kd_1 rfl ?_
        refine z_getI rfl fl_X4_147 rfl kd_6 ?_
        refine z_iconst rfl rfl ?_
        refine z_isub rfl ?_
        refine z_iload_n rfl rfl ?_
        refine z_isub rfl ?_
        refine z_istore_nL rfl rfl (fun y1 => ?_)
        refine z_iload_n rfl rfl ?_
        refine z_if_ge rfl ?_ ?_
        · refine z_aload_n rfl rfl ?_
          refine z_getRn (m := 1) rfl fl_X4_10 rfl kd_0 rfl ?_
          refine z_getRn (m := 6) rfl fl_X4_144 rfl kd_1 rfl ?_
          refine z_iload_n rfl rfl ?_
          refine z_iload_n rfl rfl ?_
          refine z_V2i ko2 mv_X4_100 kd_6 (t_X2_cell 6 kd_6 _ _ _) rfl rfl rfl rfl rfl (fun r2 h2 => ?_)
          exact z_ireturn rfl rfl
        · refine z_ldc rfl cst_X4_112 rfl ?_
          refine z_goto rfl ?_
          exact z_ireturn rfl rfl
      · refine z_ldc rfl cst_X4_99 rfl ?_
        exact z_ireturn rfl rfl
set_option maxRecDepth 20000 in
set_option maxHeartbeats 1000000 in
theorem t_X4_keepState  (h : Hp) : Ct M_X4_keepState [vr 0] h (f_X4_keepState  h) := by
  refine Ct.mk ok_X4_keepState pl_X4_keepState rfl rfl ?_
  show Z M_X4_keepState 0 [some (vr 0)] [] h (f_X4_keepState  h)
  unfold f_X4_keepState
  refine z_aload_n rfl rfl ?_
  refine z_getI rfl fl_X4_30 rfl kd_0 ?_
  refine z_if_lt rfl ?_ ?_
  · exact z_return rfl rfl
  · refine z_aload_n rfl rfl ?_
    refine z_getI rfl fl_X4_30 rfl kd_0 ?_
    refine z_aload_n rfl rfl ?_
    refine z_getRn (m := 27) rfl fl_X4_26 rfl kd_0 rfl ?_
    refine z_alen (c := 3) rfl kd_27 (by omega) ?_
    refine z_icmp_ge rfl ?_ ?_
    · exact z_return rfl rfl
    · refine z_aload_n rfl rfl ?_
      refine z_getRn (m := 27) rfl fl_X4_26 rfl kd_0 rfl ?_
      refine z_aload_n rfl rfl ?_
      refine z_getI rfl fl_X4_30 rfl kd_0 ?_
      refine z_aaload rfl kd_27 (fun q1 => ?_)
      refine z_ifnull rfl ?_
      refine z_aload_n rfl rfl ?_
      refine z_getRn (m := 27) rfl fl_X4_26 rfl kd_0 rfl ?_
      refine z_aload_n rfl rfl ?_
      refine z_getI rfl fl_X4_30 rfl kd_0 ?_
      refine z_aaload rfl kd_27 (fun q2 => ?_)
      refine z_aload_n rfl rfl ?_
      refine z_getRn (m := 1) rfl fl_X4_10 rfl kd_0 rfl ?_
      refine z_V1v ko1 mv_X4_154 q2 (t_X1_become (Int.toNat (h 27 (Int.toNat (h 0 4)))) q2 1 kd_1 _) rfl rfl rfl rfl rfl (fun _ h3 => ?_)
      exact z_return rfl rfl
set_option maxRecDepth 20000 in
set_option maxHeartbeats 1000000 in
theorem t_X4_forgetOldestState_L7 (y2 : Nat) (ky2 : kd y2 = (1, 0)) (c24 : Hp → Option (Int × Hp)) (hc24 : ∀ (h : Hp), Z M_X4_forgetOldestState 24 [some (vr 0), some (vr y2), none] [] h (c24  h)) : ∀ (n : Nat) (x2 : Int) (h : Hp), Z M_X4_forgetOldestState 7 [some (vr 0), some (vr y2), some (vi x2)] [] h (f_X4_forgetOldestState_L7 y2 c24 n x2 h) := by
  intro n
  induction n with
  | zero => intro x2 h; exact Z.nix
  | succ n ih =>
    intro x2 h
    rw [f_X4_forgetOldestState_L7_s]
    refine z_iload_n rfl rfl ?_
    refine z_aload_n rfl rfl ?_
    refine z_getRn (m := 27) rfl fl_X4_26 rfl kd_0 rfl ?_
    refine z_alen (c := 3) rfl kd_27 (by omega) ?_
    refine z_icmp_ge rfl ?_ ?_
    · refine Z.weak ?_ (hc24 _)
      exact wkL_c (wkL_c (wkL_n (wkL_nil _)))
    · refine z_aload_n rfl rfl ?_
      refine z_getRn (m := 27) rfl fl_X4_26 rfl kd_0 rfl ?_
      refine z_iload_n rfl rfl ?_
      refine z_iconst rfl rfl ?_
      refine z_isub rfl ?_
      refine z_aload_n rfl rfl ?_
      refine z_getRn (m := 27) rfl fl_X4_26 rfl kd_0 rfl ?_
      refine z_iload_n rfl rfl ?_
      refine z_aaload rfl kd_27 (fun q3 => ?_)
      refine z_aastoreL kd_27 q3 rfl (fun h4 => ?_)
      refine z_iinc rfl rfl rfl ?_
      refine z_goto rfl ?_
      refine Z.weak ?_ (ih _ _)
      exact wkL_c (wkL_c (wkL_c (wkL_nil _)))
set_option maxRecDepth 20000 in
set_option maxHeartbeats 1000000 in
theorem t_X4_forgetOldestState  (h : Hp) : Ct M_X4_forgetOldestState [vr 0] h (f_X4_forgetOldestState  h) := by
  refine Ct.mk ok_X4_forgetOldestState pl_X4_forgetOldestState rfl rfl ?_
  show Z M_X4_forgetOldestState 0 [some (vr 0), none, none] [] h (f_X4_forgetOldestState  h)
  unfold f_X4_forgetOldestState
  refine z_aload_n rfl rfl ?_
  refine z_getRn (m := 27) rfl fl_X4_26 rfl kd_0 rfl ?_
  refine z_iconst rfl rfl ?_
  refine z_aaload rfl kd_27 (fun q1 => ?_)
  refine z_astore_nQ q1 rfl rfl (fun y2 ky2 => ?_)
  refine z_iconst rfl rfl ?_
  refine z_istore_n rfl rfl ?_
  refine Z.weak ?_ (t_X4_forgetOldestState_L7 y2 ky2  _  ?_  fu _ _)
  · exact wkL_c (wkL_c (wkL_c (wkL_nil _)))
  · intro h5
    refine z_aload_n rfl rfl ?_
    refine z_getRn (m := 27) rfl fl_X4_26 rfl kd_0 rfl ?_
    refine z_aload_n rfl rfl ?_
    refine z_getRn (m := 27) rfl fl_X4_26 rfl kd_0 rfl ?_
    refine z_alen (c := 3) rfl kd_27 (by omega) ?_
    refine z_iconst rfl rfl ?_
    refine z_isub rfl ?_
    refine z_aload_n rfl rfl ?_
    refine z_aastoreL kd_27 ky2 rfl (fun h6 => ?_)
    refine z_aload_n rfl rfl ?_
    refine z_dup rfl rfl ?_
    refine z_getI rfl fl_X4_30 rfl kd_0 ?_
    refine z_iconst rfl rfl ?_
    refine z_isub rfl ?_
    refine z_putL fi_X4_30 rfl kd_0 rfl (fun h7 => ?_)
    exact z_return rfl rfl
set_option maxRecDepth 20000 in
set_option maxHeartbeats 1000000 in
theorem t_X4_recorded (x1 : Int) (h : Hp) : Ct M_X4_recorded [vr 0, vi x1] h (f_X4_recorded x1 h) := by
  refine Ct.mk ok_X4_recorded pl_X4_recorded rfl rfl ?_
  show Z M_X4_recorded 0 [some (vr 0), some (vi x1)] [] h (f_X4_recorded x1 h)
  unfold f_X4_recorded
  refine z_iload_n rfl rfl ?_
  refine z_if_lt rfl ?_ ?_
  · refine z_iload_n rfl rfl ?_
    exact z_ireturn rfl rfl
  · refine z_aload_n rfl rfl ?_
    refine z_dup rfl rfl ?_
    refine z_getI rfl fl_X4_30 rfl kd_0 ?_
    refine z_iconst rfl rfl ?_
    refine z_iadd rfl ?_
    refine z_putL fi_X4_30 rfl kd_0 rfl (fun h1 => ?_)
    refine z_aload_n rfl rfl ?_
    refine z_getI rfl fl_X4_30 rfl kd_0 ?_
    refine z_iconst rfl rfl ?_
    refine z_icmp_le rfl ?_ ?_
    · refine z_iload_n rfl rfl ?_
      exact z_ireturn rfl rfl
    · refine z_aload_n rfl rfl ?_
      refine z_V0v ko4 mv_X4_192 kd_0 (t_X4_forgetOldestState  _) rfl rfl rfl rfl rfl (fun _ h2 => ?_)
      refine z_iload_n rfl rfl ?_
      exact z_ireturn rfl rfl
set_option maxRecDepth 20000 in
set_option maxHeartbeats 1000000 in
theorem t_X4_claim (x1 : Int) (x2 : Int) (x3 : Int) (x4 : Int) (h : Hp) : Ct M_X4_claim [vr 0, vi x1, vi x2, vi x3, vi x4] h (f_X4_claim x1 x2 x3 x4 h) := by
  refine Ct.mk ok_X4_claim pl_X4_claim rfl rfl ?_
  show Z M_X4_claim 0 [some (vr 0), some (vi x1), some (vi x2), some (vi x3), some (vi x4)] [] h (f_X4_claim x1 x2 x3 x4 h)
  unfold f_X4_claim
  refine z_aload_n rfl rfl ?_
  refine z_V0v ko4 mv_X4_53 kd_0 (t_X4_keepState  _) rfl rfl rfl rfl rfl (fun _ h1 => ?_)
  refine z_aload_n rfl rfl ?_
  refine z_aload_n rfl rfl ?_
  refine z_getRn (m := 1) rfl fl_X4_10 rfl kd_0 rfl ?_
  refine z_iload_n rfl rfl ?_
  refine z_iload_n rfl rfl ?_
  refine z_iload_n rfl rfl ?_
  refine z_iload rfl rfl ?_
  refine z_V4i ko1 mv_X4_64 kd_1 (t_X1_takeClaim 1 kd_1 _ _ _ _ _) rfl rfl rfl rfl rfl (fun r2 h2 => ?_)
  refine z_V1i ko4 mv_X4_60 kd_0 (t_X4_recorded _ _) rfl rfl rfl rfl rfl (fun r3 h3 => ?_)
  exact z_ireturn rfl rfl
set_option maxRecDepth 20000 in
set_option maxHeartbeats 1000000 in
theorem t_X4_orNotFound (x0 : Int) (h : Hp) : Ct M_X4_orNotFound [vi x0] h (f_X4_orNotFound x0 h) := by
  refine Ct.mk ok_X4_orNotFound pl_X4_orNotFound rfl rfl ?_
  show Z M_X4_orNotFound 0 [some (vi x0)] [] h (f_X4_orNotFound x0 h)
  unfold f_X4_orNotFound
  refine z_iload_n rfl rfl ?_
  refine z_iconst rfl rfl ?_
  refine z_icmp_ne rfl ?_ ?_
  · refine z_iload_n rfl rfl ?_
    exact z_ireturn rfl rfl
  · refine z_ldc rfl cst_X4_112 rfl ?_
    refine z_goto rfl ?_
    exact z_ireturn rfl rfl
set_option maxRecDepth 20000 in
set_option maxHeartbeats 1000000 in
theorem t_X4_claimOf (x1 : Int) (x2 : Int) (h : Hp) : Ct M_X4_claimOf [vr 0, vi x1, vi x2] h (f_X4_claimOf x1 x2 h) := by
  refine Ct.mk ok_X4_claimOf pl_X4_claimOf rfl rfl ?_
  show Z M_X4_claimOf 0 [some (vr 0), some (vi x1), some (vi x2), none] [] h (f_X4_claimOf x1 x2 h)
  unfold f_X4_claimOf
  refine z_aload_n rfl rfl ?_
  refine z_getRn (m := 1) rfl fl_X4_10 rfl kd_0 rfl ?_
  refine z_getRn (m := 4) rfl fl_X4_116 rfl kd_1 rfl ?_
  refine z_iload_n rfl rfl ?_
  refine z_V1i ko2 mv_X4_93 kd_4 (t_X2_has 4 kd_4 _ _) rfl rfl rfl rfl rfl (fun r1 h1 => ?_)
  refine z_if_eq rfl ?_ ?_
  · refine z_ldc rfl cst_X4_99 rfl ?_
    exact z_ireturn rfl rfl
  · refine z_iload_n rfl rfl ?_
    refine z_if_lt rfl ?_ ?_
    · refine z_ldc rfl cst_X4_99 rfl ?_
      exact z_ireturn rfl rfl
    · refine z_iload_n rfl rfl ?_
      refine z_bipush rfl rfl ?_
      refine z_icmp_le rfl ?_ ?_
      · refine z_iload_n rfl rfl ?_
        refine z_iconst rfl rfl ?_
        refine z_icmp_ge rfl ?_ ?_
        · refine z_iload_n rfl rfl ?_
          refine z_iconst rfl rfl ?_
          refine z_icmp_ne rfl ?_ ?_
          · refine z_iload_n rfl rfl ?_
            refine z_bipush rfl rfl ?_
            refine z_icmp_ne rfl ?_ ?_
            · refine z_aload_n rfl rfl ?_
              refine z_getRn (m := 19) rfl fl_X4_22 rfl kd_0 rfl ?_
              refine z_aload_n rfl rfl ?_
              refine z_getRn (m := 1) rfl fl_X4_10 rfl kd_0 rfl ?_
              refine z_V1v ko0 mv_X4_78 kd_19 (t_X0_matchAll 1 kd_1 _) rfl rfl rfl rfl rfl (fun _ h2 => ?_)
              refine z_iload_n rfl rfl ?_
              refine z_iconst rfl rfl ?_
              refine z_icmp_ne rfl ?_ ?_
              · refine z_aload_n rfl rfl ?_
                refine z_getRn (m := 19) rfl fl_X4_22 rfl kd_0 rfl ?_
                refine z_iload_n rfl rfl ?_
                refine z_V1i ko0 mv_X4_125 kd_19 (t_X0_umbrellasSuiting _ _) rfl rfl rfl rfl rfl (fun r3 h3 => ?_)
                exact z_ireturn rfl rfl
              · refine z_aload_n rfl rfl ?_
                refine z_getRn (m := 19) rfl fl_X4_22 rfl kd_0 rfl ?_
                refine z_iload_n rfl rfl ?_
                refine z_V1i ko0 mv_X4_119 kd_19 (t_X0_umbrellaMatched _ _) rfl rfl rfl rfl rfl (fun r4 h4 => ?_)
                refine z_S1i ms_X4_122 (t_X4_orNotFound _ _) rfl rfl rfl rfl (fun r5 h5 => ?_)
                refine z_goto rfl ?_
                exact z_ireturn rfl rfl
            · refine z_aload_n rfl rfl ?_
              refine z_getRn (m := 1) rfl fl_X4_10 rfl kd_0 rfl ?_
              refine z_getRn (m := 4) rfl fl_X4_116 rfl kd_1 rfl ?_
              refine z_iload_n rfl rfl ?_
              refine z_iconst rfl rfl ?_
              refine z_V2i ko2 mv_X4_100 kd_4 (t_X2_cell 4 kd_4 _ _ _) rfl rfl rfl rfl rfl (fun r6 h6 => ?_)
              exact z_ireturn rfl rfl
          · refine z_aload_n rfl rfl ?_
            refine z_getRn (m := 1) rfl fl_X4_10 rfl kd_0 rfl ?_
            refine z_getRn (m := 4) rfl fl_X4_116 rfl kd_1 rfl ?_
            refine z_iload_n rfl rfl ?_
            refine z_iconst rfl rfl ?_
            refine z_V2i ko2 mv_X4_100 kd_4 (t_X2_cell 4 kd_4 _ _ _) rfl rfl rfl rfl rfl (fun r7 h7 => ?_)
            exact z_ireturn rfl rfl
        · refine z_aload_n rfl rfl ?_
          refine z_getRn (m := 1) rfl fl_X4_10 rfl kd_0 rfl ?_
          refine z_getRn (m := 4) rfl fl_X4_116 rfl kd_1 rfl ?_
          refine z_iload_n rfl rfl ?_
          refine z_iload_n rfl rfl ?_
          refine z_V2i ko2 mv_X4_100 kd_4 (t_X2_cell 4 kd_4 _ _ _) rfl rfl rfl rfl rfl (fun r8 h8 => ?_)
          refine z_istore_n rfl rfl ?_
          refine z_iload_n rfl rfl ?_
          refine z_iconst rfl rfl ?_
          refine z_icmp_ne rfl ?_ ?_
          · refine z_iload_n rfl rfl ?_
            exact z_ireturn rfl rfl
          · refine z_ldc rfl cst_X4_112 rfl ?_
            refine z_goto rfl ?_
            exact z_ireturn rfl rfl
      · refine z_ldc rfl cst_X4_99 rfl ?_
        exact z_ireturn rfl rfl
set_option maxRecDepth 20000 in
set_option maxHeartbeats 1000000 in
theorem t_X4_clearText  (h : Hp) : Ct M_X4_clearText [vr 0] h (f_X4_clearText  h) := by
  refine Ct.mk ok_X4_clearText pl_X4_clearText rfl rfl ?_
  show Z M_X4_clearText 0 [some (vr 0), none] [] h (f_X4_clearText  h)
  unfold f_X4_clearText
  refine z_aload_n rfl rfl ?_
  refine z_getRn (m := 28) rfl fl_X4_37 rfl kd_0 rfl ?_
  refine z_getI rfl fl_X4_180 rfl kd_28 ?_
  refine z_istore_nL rfl rfl (fun y1 => ?_)
  refine z_aload_n rfl rfl ?_
  refine z_getRn (m := 28) rfl fl_X4_37 rfl kd_0 rfl ?_
  refine z_iconst rfl rfl ?_
  refine z_putL fi_X4_180 rfl kd_28 rfl (fun h2 => ?_)
  refine z_iload_n rfl rfl ?_
  exact z_ireturn rfl rfl
set_option maxRecDepth 20000 in
set_option maxHeartbeats 1000000 in
theorem t_X4_count_J13 (x1 : Int) (h : Hp) : Z M_X4_count 13 [some (vr 0), some (vi x1)] [] h (f_X4_count_J13 x1 h) := by
  unfold f_X4_count_J13
  refine z_iload_n rfl rfl ?_
  refine Z.ite (fun e1 => ?_) (fun e1 => ?_)
  · refine z_table (tg := 15) rfl (o := 71) (by rw [e1]; rfl) rfl ?_
    refine z_aload_n rfl rfl ?_
    refine z_getRn (m := 1) rfl fl_X4_10 rfl kd_0 rfl ?_
    refine z_getRn (m := 2) rfl fl_X4_89 rfl kd_1 rfl ?_
    refine z_getI rfl fl_X4_147 rfl kd_2 ?_
    exact z_ireturn rfl rfl
  refine Z.ite (fun e2 => ?_) (fun e2 => ?_)
  · refine z_table (tg := 20) rfl (o := 82) (by rw [e2]; rfl) rfl ?_
    refine z_aload_n rfl rfl ?_
    refine z_getRn (m := 1) rfl fl_X4_10 rfl kd_0 rfl ?_
    refine z_getRn (m := 4) rfl fl_X4_116 rfl kd_1 rfl ?_
    refine z_getI rfl fl_X4_147 rfl kd_4 ?_
    exact z_ireturn rfl rfl
  refine Z.ite (fun e4 => ?_) (fun e4 => ?_)
  · refine z_table (tg := 25) rfl (o := 93) (by rw [e4]; rfl) rfl ?_
    refine z_aload_n rfl rfl ?_
    refine z_getRn (m := 19) rfl fl_X4_22 rfl kd_0 rfl ?_
    refine z_aload_n rfl rfl ?_
    refine z_getRn (m := 1) rfl fl_X4_10 rfl kd_0 rfl ?_
    refine z_V1v ko0 mv_X4_78 kd_19 (t_X0_matchAll 1 kd_1 _) rfl rfl rfl rfl rfl (fun _ h3 => ?_)
    refine z_aload_n rfl rfl ?_
    refine z_getRn (m := 19) rfl fl_X4_22 rfl kd_0 rfl ?_
    refine z_getI rfl fl_X4_163 rfl kd_19 ?_
    exact z_ireturn rfl rfl
  refine Z.ite (fun e6 => ?_) (fun e6 => ?_)
  · refine z_table (tg := 34) rfl (o := 112) (by rw [e6]; rfl) rfl ?_
    refine z_aload_n rfl rfl ?_
    refine z_getRn (m := 19) rfl fl_X4_22 rfl kd_0 rfl ?_
    refine z_aload_n rfl rfl ?_
    refine z_getRn (m := 1) rfl fl_X4_10 rfl kd_0 rfl ?_
    refine z_V1v ko0 mv_X4_177 kd_19 (t_X0_matchByAsking 1 kd_1 _) rfl rfl rfl rfl rfl (fun _ h5 => ?_)
    refine z_aload_n rfl rfl ?_
    refine z_getRn (m := 19) rfl fl_X4_22 rfl kd_0 rfl ?_
    refine z_getI rfl fl_X4_163 rfl kd_19 ?_
    exact z_ireturn rfl rfl
  refine Z.ite (fun e8 => ?_) (fun e8 => ?_)
  · refine z_table (tg := 55) rfl (o := 155) (by rw [e8]; rfl) rfl ?_
    refine z_iload_n rfl rfl ?_
    refine z_if_lt rfl ?_ ?_
    · refine z_ldc rfl cst_X4_99 rfl ?_
      exact z_ireturn rfl rfl
    · refine z_iload_n rfl rfl ?_
      refine z_bipush rfl rfl ?_
      refine z_icmp_ge rfl ?_ ?_
      · refine z_ldc rfl cst_X4_99 rfl ?_
        exact z_ireturn rfl rfl
      · refine z_aload_n rfl rfl ?_
        refine z_getRn (m := 1) rfl fl_X4_10 rfl kd_0 rfl ?_
        refine z_iload_n rfl rfl ?_
        refine z_V1i ko1 mv_X4_160 kd_1 (t_X1_sum 1 kd_1 _ _) rfl rfl rfl rfl rfl (fun r7 h7 => ?_)
        refine z_goto rfl ?_
        exact z_ireturn rfl rfl
  refine Z.ite (fun e10 => ?_) (fun e10 => ?_)
  · refine z_table (tg := 55) rfl (o := 155) (by rw [e10]; rfl) rfl ?_
    refine z_iload_n rfl rfl ?_
    refine z_if_lt rfl ?_ ?_
    · refine z_ldc rfl cst_X4_99 rfl ?_
      exact z_ireturn rfl rfl
    · refine z_iload_n rfl rfl ?_
      refine z_bipush rfl rfl ?_
      refine z_icmp_ge rfl ?_ ?_
      · refine z_ldc rfl cst_X4_99 rfl ?_
        exact z_ireturn rfl rfl
      · refine z_aload_n rfl rfl ?_
        refine z_getRn (m := 1) rfl fl_X4_10 rfl kd_0 rfl ?_
        refine z_iload_n rfl rfl ?_
        refine z_V1i ko1 mv_X4_160 kd_1 (t_X1_sum 1 kd_1 _ _) rfl rfl rfl rfl rfl (fun r9 h9 => ?_)
        refine z_goto rfl ?_
        exact z_ireturn rfl rfl
  refine Z.ite (fun e12 => ?_) (fun e12 => ?_)
  · refine z_table (tg := 55) rfl (o := 155) (by rw [e12]; rfl) rfl ?_
    refine z_iload_n rfl rfl ?_
    refine z_if_lt rfl ?_ ?_
    · refine z_ldc rfl cst_X4_99 rfl ?_
      exact z_ireturn rfl rfl
    · refine z_iload_n rfl rfl ?_
      refine z_bipush rfl rfl ?_
      refine z_icmp_ge rfl ?_ ?_
      · refine z_ldc rfl cst_X4_99 rfl ?_
        exact z_ireturn rfl rfl
      · refine z_aload_n rfl rfl ?_
        refine z_getRn (m := 1) rfl fl_X4_10 rfl kd_0 rfl ?_
        refine z_iload_n rfl rfl ?_
        refine z_V1i ko1 mv_X4_160 kd_1 (t_X1_sum 1 kd_1 _ _) rfl rfl rfl rfl rfl (fun r11 h11 => ?_)
        refine z_goto rfl ?_
        exact z_ireturn rfl rfl
  refine Z.ite (fun e14 => ?_) (fun e14 => ?_)
  · refine z_table (tg := 55) rfl (o := 155) (by rw [e14]; rfl) rfl ?_
    refine z_iload_n rfl rfl ?_
    refine z_if_lt rfl ?_ ?_
    · refine z_ldc rfl cst_X4_99 rfl ?_
      exact z_ireturn rfl rfl
    · refine z_iload_n rfl rfl ?_
      refine z_bipush rfl rfl ?_
      refine z_icmp_ge rfl ?_ ?_
      · refine z_ldc rfl cst_X4_99 rfl ?_
        exact z_ireturn rfl rfl
      · refine z_aload_n rfl rfl ?_
        refine z_getRn (m := 1) rfl fl_X4_10 rfl kd_0 rfl ?_
        refine z_iload_n rfl rfl ?_
        refine z_V1i ko1 mv_X4_160 kd_1 (t_X1_sum 1 kd_1 _ _) rfl rfl rfl rfl rfl (fun r13 h13 => ?_)
        refine z_goto rfl ?_
        exact z_ireturn rfl rfl
  refine Z.ite (fun e16 => ?_) (fun e16 => ?_)
  · refine z_table (tg := 55) rfl (o := 155) (by rw [e16]; rfl) rfl ?_
    refine z_iload_n rfl rfl ?_
    refine z_if_lt rfl ?_ ?_
    · refine z_ldc rfl cst_X4_99 rfl ?_
      exact z_ireturn rfl rfl
    · refine z_iload_n rfl rfl ?_
      refine z_bipush rfl rfl ?_
      refine z_icmp_ge rfl ?_ ?_
      · refine z_ldc rfl cst_X4_99 rfl ?_
        exact z_ireturn rfl rfl
      · refine z_aload_n rfl rfl ?_
        refine z_getRn (m := 1) rfl fl_X4_10 rfl kd_0 rfl ?_
        refine z_iload_n rfl rfl ?_
        refine z_V1i ko1 mv_X4_160 kd_1 (t_X1_sum 1 kd_1 _ _) rfl rfl rfl rfl rfl (fun r15 h15 => ?_)
        refine z_goto rfl ?_
        exact z_ireturn rfl rfl
  refine Z.ite (fun e18 => ?_) (fun e18 => ?_)
  · refine z_table (tg := 55) rfl (o := 155) (by rw [e18]; rfl) rfl ?_
    refine z_iload_n rfl rfl ?_
    refine z_if_lt rfl ?_ ?_
    · refine z_ldc rfl cst_X4_99 rfl ?_
      exact z_ireturn rfl rfl
    · refine z_iload_n rfl rfl ?_
      refine z_bipush rfl rfl ?_
      refine z_icmp_ge rfl ?_ ?_
      · refine z_ldc rfl cst_X4_99 rfl ?_
        exact z_ireturn rfl rfl
      · refine z_aload_n rfl rfl ?_
        refine z_getRn (m := 1) rfl fl_X4_10 rfl kd_0 rfl ?_
        refine z_iload_n rfl rfl ?_
        refine z_V1i ko1 mv_X4_160 kd_1 (t_X1_sum 1 kd_1 _ _) rfl rfl rfl rfl rfl (fun r17 h17 => ?_)
        refine z_goto rfl ?_
        exact z_ireturn rfl rfl
  refine Z.ite (fun e20 => ?_) (fun e20 => ?_)
  · refine z_table (tg := 55) rfl (o := 155) (by rw [e20]; rfl) rfl ?_
    refine z_iload_n rfl rfl ?_
    refine z_if_lt rfl ?_ ?_
    · refine z_ldc rfl cst_X4_99 rfl ?_
      exact z_ireturn rfl rfl
    · refine z_iload_n rfl rfl ?_
      refine z_bipush rfl rfl ?_
      refine z_icmp_ge rfl ?_ ?_
      · refine z_ldc rfl cst_X4_99 rfl ?_
        exact z_ireturn rfl rfl
      · refine z_aload_n rfl rfl ?_
        refine z_getRn (m := 1) rfl fl_X4_10 rfl kd_0 rfl ?_
        refine z_iload_n rfl rfl ?_
        refine z_V1i ko1 mv_X4_160 kd_1 (t_X1_sum 1 kd_1 _ _) rfl rfl rfl rfl rfl (fun r19 h19 => ?_)
        refine z_goto rfl ?_
        exact z_ireturn rfl rfl
  refine Z.ite (fun e21 => ?_) (fun e21 => ?_)
  · refine z_table (tg := 43) rfl (o := 131) (by rw [e21]; rfl) rfl ?_
    refine z_aload_n rfl rfl ?_
    refine z_getRn (m := 1) rfl fl_X4_10 rfl kd_0 rfl ?_
    refine z_getRn (m := 6) rfl fl_X4_144 rfl kd_1 rfl ?_
    refine z_getI rfl fl_X4_147 rfl kd_6 ?_
    exact z_ireturn rfl rfl
  refine Z.ite (fun e22 => ?_) (fun e22 => ?_)
  · refine z_table (tg := 48) rfl (o := 142) (by rw [e22]; rfl) rfl ?_
    refine z_aload_n rfl rfl ?_
    refine z_getI rfl fl_X4_30 rfl kd_0 ?_
    exact z_ireturn rfl rfl
  refine Z.ite (fun e23 => ?_) (fun e23 => ?_)
  · refine z_table (tg := 51) rfl (o := 147) (by rw [e23]; rfl) rfl ?_
    refine z_aload_n rfl rfl ?_
    refine z_getRn (m := 28) rfl fl_X4_37 rfl kd_0 rfl ?_
    refine z_getI rfl fl_X4_180 rfl kd_28 ?_
    exact z_ireturn rfl rfl
  refine z_table (tg := 55) rfl (o := 155) (if_pos (by omega)) rfl ?_
  refine z_iload_n rfl rfl ?_
  refine z_if_lt rfl ?_ ?_
  · refine z_ldc rfl cst_X4_99 rfl ?_
    exact z_ireturn rfl rfl
  · refine z_iload_n rfl rfl ?_
    refine z_bipush rfl rfl ?_
    refine z_icmp_ge rfl ?_ ?_
    · refine z_ldc rfl cst_X4_99 rfl ?_
      exact z_ireturn rfl rfl
    · refine z_aload_n rfl rfl ?_
      refine z_getRn (m := 1) rfl fl_X4_10 rfl kd_0 rfl ?_
      refine z_iload_n rfl rfl ?_
      refine z_V1i ko1 mv_X4_160 kd_1 (t_X1_sum 1 kd_1 _ _) rfl rfl rfl rfl rfl (fun r24 h24 => ?_)
      refine z_goto rfl ?_
      exact z_ireturn rfl rfl
set_option maxRecDepth 20000 in
set_option maxHeartbeats 1000000 in
theorem t_X4_count (x1 : Int) (h : Hp) : Ct M_X4_count [vr 0, vi x1] h (f_X4_count x1 h) := by
  refine Ct.mk ok_X4_count pl_X4_count rfl rfl ?_
  show Z M_X4_count 0 [some (vr 0), some (vi x1)] [] h (f_X4_count x1 h)
  unfold f_X4_count
  refine z_iload_n rfl rfl ?_
  refine z_bipush rfl rfl ?_
  refine z_icmp_lt rfl ?_ ?_
  · refine Z.weak ?_ (t_X4_count_J13  _  _)
    exact wkL_c (wkL_c (wkL_nil _))
  · refine z_iload_n rfl rfl ?_
    refine z_bipush rfl rfl ?_
    refine z_icmp_ge rfl ?_ ?_
    · refine Z.weak ?_ (t_X4_count_J13  _  _)
      exact wkL_c (wkL_c (wkL_nil _))
    · refine z_aload_n rfl rfl ?_
      refine z_getRn (m := 1) rfl fl_X4_10 rfl kd_0 rfl ?_
      refine z_iload_n rfl rfl ?_
      refine z_bipush rfl rfl ?_
      refine z_isub rfl ?_
      refine z_V1i ko1 mv_X4_174 kd_1 (t_X1_setting 1 kd_1 _ _) rfl rfl rfl rfl rfl (fun r25 h25 => ?_)
      exact z_ireturn rfl rfl
set_option maxRecDepth 20000 in
set_option maxHeartbeats 1000000 in
theorem t_X4_doOrder (x1 : Nat) (k1 : kd x1 = (1, 0)) (h : Hp) : Ct M_X4_doOrder [vr 0, vr x1] h (f_X4_doOrder x1 h) := by
  refine Ct.mk ok_X4_doOrder pl_X4_doOrder rfl rfl ?_
  show Z M_X4_doOrder 0 [some (vr 0), some (vr x1)] [] h (f_X4_doOrder x1 h)
  unfold f_X4_doOrder
  refine z_aload_n rfl rfl ?_
  refine z_getRn (m := 28) rfl fl_X4_37 rfl kd_0 rfl ?_
  refine z_getI rfl fl_X4_209 rfl kd_28 ?_
  refine Z.ite (fun e6 => ?_) (fun e6 => ?_)
  · refine z_table (tg := 4) rfl (o := 29) (by rw [e6]; rfl) rfl ?_
    refine z_aload_n rfl rfl ?_
    refine z_aload_n rfl rfl ?_
    refine z_getRn (m := 28) rfl fl_X4_37 rfl kd_0 rfl ?_
    refine z_iconst rfl rfl ?_
    refine z_V1i ko3 mv_X4_212 kd_28 (t_X3_number _ _) rfl rfl rfl rfl rfl (fun r1 h1 => ?_)
    refine z_aload_n rfl rfl ?_
    refine z_getRn (m := 28) rfl fl_X4_37 rfl kd_0 rfl ?_
    refine z_iconst rfl rfl ?_
    refine z_V1i ko3 mv_X4_212 kd_28 (t_X3_number _ _) rfl rfl rfl rfl rfl (fun r2 h2 => ?_)
    refine z_aload_n rfl rfl ?_
    refine z_getRn (m := 28) rfl fl_X4_37 rfl kd_0 rfl ?_
    refine z_iconst rfl rfl ?_
    refine z_V1i ko3 mv_X4_212 kd_28 (t_X3_number _ _) rfl rfl rfl rfl rfl (fun r3 h3 => ?_)
    refine z_aload_n rfl rfl ?_
    refine z_getRn (m := 28) rfl fl_X4_37 rfl kd_0 rfl ?_
    refine z_iconst rfl rfl ?_
    refine z_V1i ko3 mv_X4_212 kd_28 (t_X3_number _ _) rfl rfl rfl rfl rfl (fun r4 h4 => ?_)
    refine z_V4i ko1 mv_X4_56 k1 (t_X1_takeUmbrella x1 k1 _ _ _ _ _) rfl rfl rfl rfl rfl (fun r5 h5 => ?_)
    exact z_ireturn rfl rfl
  refine Z.ite (fun e12 => ?_) (fun e12 => ?_)
  · refine z_table (tg := 23) rfl (o := 66) (by rw [e12]; rfl) rfl ?_
    refine z_aload_n rfl rfl ?_
    refine z_aload_n rfl rfl ?_
    refine z_getRn (m := 28) rfl fl_X4_37 rfl kd_0 rfl ?_
    refine z_iconst rfl rfl ?_
    refine z_V1i ko3 mv_X4_212 kd_28 (t_X3_number _ _) rfl rfl rfl rfl rfl (fun r7 h7 => ?_)
    refine z_aload_n rfl rfl ?_
    refine z_getRn (m := 28) rfl fl_X4_37 rfl kd_0 rfl ?_
    refine z_iconst rfl rfl ?_
    refine z_V1i ko3 mv_X4_212 kd_28 (t_X3_number _ _) rfl rfl rfl rfl rfl (fun r8 h8 => ?_)
    refine z_aload_n rfl rfl ?_
    refine z_getRn (m := 28) rfl fl_X4_37 rfl kd_0 rfl ?_
    refine z_iconst rfl rfl ?_
    refine z_V1i ko3 mv_X4_212 kd_28 (t_X3_number _ _) rfl rfl rfl rfl rfl (fun r9 h9 => ?_)
    refine z_aload_n rfl rfl ?_
    refine z_getRn (m := 28) rfl fl_X4_37 rfl kd_0 rfl ?_
    refine z_iconst rfl rfl ?_
    refine z_V1i ko3 mv_X4_212 kd_28 (t_X3_number _ _) rfl rfl rfl rfl rfl (fun r10 h10 => ?_)
    refine z_V4i ko1 mv_X4_64 k1 (t_X1_takeClaim x1 k1 _ _ _ _ _) rfl rfl rfl rfl rfl (fun r11 h11 => ?_)
    exact z_ireturn rfl rfl
  refine Z.ite (fun e17 => ?_) (fun e17 => ?_)
  · refine z_table (tg := 42) rfl (o := 103) (by rw [e17]; rfl) rfl ?_
    refine z_aload_n rfl rfl ?_
    refine z_aload_n rfl rfl ?_
    refine z_getRn (m := 28) rfl fl_X4_37 rfl kd_0 rfl ?_
    refine z_iconst rfl rfl ?_
    refine z_V1i ko3 mv_X4_212 kd_28 (t_X3_number _ _) rfl rfl rfl rfl rfl (fun r13 h13 => ?_)
    refine z_aload_n rfl rfl ?_
    refine z_getRn (m := 28) rfl fl_X4_37 rfl kd_0 rfl ?_
    refine z_iconst rfl rfl ?_
    refine z_V1i ko3 mv_X4_212 kd_28 (t_X3_number _ _) rfl rfl rfl rfl rfl (fun r14 h14 => ?_)
    refine z_aload_n rfl rfl ?_
    refine z_getRn (m := 28) rfl fl_X4_37 rfl kd_0 rfl ?_
    refine z_iconst rfl rfl ?_
    refine z_V1i ko3 mv_X4_212 kd_28 (t_X3_number _ _) rfl rfl rfl rfl rfl (fun r15 h15 => ?_)
    refine z_V3i ko1 mv_X4_67 k1 (t_X1_noteDetail x1 k1 _ _ _ _) rfl rfl rfl rfl rfl (fun r16 h16 => ?_)
    exact z_ireturn rfl rfl
  refine Z.ite (fun e20 => ?_) (fun e20 => ?_)
  · refine z_table (tg := 57) rfl (o := 132) (by rw [e20]; rfl) rfl ?_
    refine z_aload_n rfl rfl ?_
    refine z_aload_n rfl rfl ?_
    refine z_getRn (m := 28) rfl fl_X4_37 rfl kd_0 rfl ?_
    refine z_iconst rfl rfl ?_
    refine z_V1i ko3 mv_X4_212 kd_28 (t_X3_number _ _) rfl rfl rfl rfl rfl (fun r18 h18 => ?_)
    refine z_sipush rfl rfl ?_
    refine z_V2i ko1 mv_X4_74 k1 (t_X1_passWeeks x1 k1 _ _ _) rfl rfl rfl rfl rfl (fun r19 h19 => ?_)
    exact z_ireturn rfl rfl
  refine z_table (tg := 65) rfl (o := 148) (if_pos (by omega)) rfl ?_
  refine z_aload_n rfl rfl ?_
  refine z_getRn (m := 19) rfl fl_X4_22 rfl kd_0 rfl ?_
  refine z_aload_n rfl rfl ?_
  refine z_V1v ko0 mv_X4_78 kd_19 (t_X0_matchAll x1 k1 _) rfl rfl rfl rfl rfl (fun _ h21 => ?_)
  refine z_aload_n rfl rfl ?_
  refine z_aload_n rfl rfl ?_
  refine z_getRn (m := 19) rfl fl_X4_22 rfl kd_0 rfl ?_
  refine z_V1i ko1 mv_X4_82 k1 (t_X1_handOut x1 k1 _) rfl rfl rfl rfl rfl (fun r22 h22 => ?_)
  exact z_ireturn rfl rfl
set_option maxRecDepth 20000 in
set_option maxHeartbeats 1000000 in
theorem t_X4_drop (x1 : Int) (h : Hp) : Ct M_X4_drop [vr 0, vi x1] h (f_X4_drop x1 h) := by
  refine Ct.mk ok_X4_drop pl_X4_drop rfl rfl ?_
  show Z M_X4_drop 0 [some (vr 0), some (vi x1)] [] h (f_X4_drop x1 h)
  unfold f_X4_drop
  refine z_aload_n rfl rfl ?_
  refine z_V0v ko4 mv_X4_53 kd_0 (t_X4_keepState  _) rfl rfl rfl rfl rfl (fun _ h1 => ?_)
  refine z_aload_n rfl rfl ?_
  refine z_aload_n rfl rfl ?_
  refine z_getRn (m := 1) rfl fl_X4_10 rfl kd_0 rfl ?_
  refine z_iload_n rfl rfl ?_
  refine z_V1i ko1 mv_X4_71 kd_1 (t_X1_dropClaim 1 kd_1 _ _) rfl rfl rfl rfl rfl (fun r2 h2 => ?_)
  refine z_V1i ko4 mv_X4_60 kd_0 (t_X4_recorded _ _) rfl rfl rfl rfl rfl (fun r3 h3 => ?_)
  exact z_ireturn rfl rfl
set_option maxRecDepth 20000 in
set_option maxHeartbeats 1000000 in
theorem t_X4_tellFault (x1 : Int) (x2 : Int) (x3 : Int) (h : Hp) : Ct M_X4_tellFault [vr 0, vi x1, vi x2, vi x3] h (f_X4_tellFault x1 x2 x3 h) := by
  refine Ct.mk ok_X4_tellFault pl_X4_tellFault rfl rfl ?_
  show Z M_X4_tellFault 0 [some (vr 0), some (vi x1), some (vi x2), some (vi x3)] [] h (f_X4_tellFault x1 x2 x3 h)
  unfold f_X4_tellFault
  refine z_aload_n rfl rfl ?_
  refine z_iload_n rfl rfl ?_
  refine z_putL fi_X4_44 rfl kd_0 rfl (fun h1 => ?_)
  refine z_aload_n rfl rfl ?_
  refine z_iload_n rfl rfl ?_
  refine z_putL fi_X4_47 rfl kd_0 rfl (fun h2 => ?_)
  refine z_aload_n rfl rfl ?_
  refine z_iload_n rfl rfl ?_
  refine z_putL fi_X4_50 rfl kd_0 rfl (fun h3 => ?_)
  exact z_return rfl rfl
set_option maxRecDepth 20000 in
set_option maxHeartbeats 1000000 in
theorem t_X4_tryText_L13 (c27 : Int → Hp → Option (Int × Hp)) (hc27 : ∀ (y1 : Int) (h : Hp), Z M_X4_tryText 27 [some (vr 0), some (vi y1), none] [] h (c27 y1 h)) : ∀ (n : Nat) (x1 : Int) (h : Hp), Z M_X4_tryText 13 [some (vr 0), some (vi x1), none] [] h (f_X4_tryText_L13 c27 n x1 h) := by
  intro n
  induction n with
  | zero => intro x1 h; exact Z.nix
  | succ n ih =>
    intro x1 h
    rw [f_X4_tryText_L13_s]
    refine z_iload_n rfl rfl ?_
    refine z_aload_n rfl rfl ?_
    refine z_getRn (m := 28) rfl fl_X4_37 rfl kd_0 rfl ?_
    refine z_getI rfl fl_X4_180 rfl kd_28 ?_
    refine z_icmp_ge rfl ?_ ?_
    · exact z_return rfl rfl
    · refine z_aload_n rfl rfl ?_
      refine z_getI rfl fl_X4_41 rfl kd_0 ?_
      refine z_bipush rfl rfl ?_
      refine z_icmp_ge rfl ?_ ?_
      · exact z_return rfl rfl
      · refine z_aload_n rfl rfl ?_
        refine z_getRn (m := 28) rfl fl_X4_37 rfl kd_0 rfl ?_
        refine z_iload_n rfl rfl ?_
        refine z_V1i ko3 mv_X4_195 kd_28 (t_X3_readOrder _ _) rfl rfl rfl rfl rfl (fun r4 h4 => ?_)
        refine z_if_ne rfl ?_ ?_
        · refine z_aload_n rfl rfl ?_
          refine z_aload_n rfl rfl ?_
          refine z_getRn (m := 10) rfl fl_X4_16 rfl kd_0 rfl ?_
          refine z_V1i ko4 mv_X4_205 kd_0 (t_X4_doOrder 10 kd_10 _) rfl rfl rfl rfl rfl (fun r5 h5 => ?_)
          refine z_istore_n rfl rfl ?_
          refine z_iload_n rfl rfl ?_
          refine z_if_ge rfl ?_ ?_
          · refine z_aload_n rfl rfl ?_
            refine z_dup rfl rfl ?_
            refine z_getI rfl fl_X4_41 rfl kd_0 ?_
            refine z_iconst rfl rfl ?_
            refine z_iadd rfl ?_
            refine z_putL fi_X4_41 rfl kd_0 rfl (fun h6 => ?_)
            refine z_aload_n rfl rfl ?_
            refine z_getRn (m := 28) rfl fl_X4_37 rfl kd_0 rfl ?_
            refine z_getI rfl fl_X4_198 rfl kd_28 ?_
            refine z_istore_nL rfl rfl (fun y7 => ?_)
            refine z_goto rfl ?_
            refine Z.weak ?_ (ih _ _)
            exact wkL_c (wkL_c (wkL_n (wkL_nil _)))
          · refine z_aload_n rfl rfl ?_
            refine z_iload_n rfl rfl ?_
            refine z_iconst rfl rfl ?_
            refine z_iload_n rfl rfl ?_
            refine z_V3v ko4 mv_X4_201 kd_0 (t_X4_tellFault _ _ _ _) rfl rfl rfl rfl rfl (fun _ h8 => ?_)
            exact z_return rfl rfl
        · refine Z.weak ?_ (hc27 _ _)
          exact wkL_c (wkL_c (wkL_n (wkL_nil _)))
set_option maxRecDepth 20000 in
set_option maxHeartbeats 1000000 in
theorem t_X4_tryText  (h : Hp) : Ct M_X4_tryText [vr 0] h (f_X4_tryText  h) := by
  refine Ct.mk ok_X4_tryText pl_X4_tryText rfl rfl ?_
  show Z M_X4_tryText 0 [some (vr 0), none, none] [] h (f_X4_tryText  h)
  unfold f_X4_tryText
  refine z_aload_n rfl rfl ?_
  refine z_getRn (m := 10) rfl fl_X4_16 rfl kd_0 rfl ?_
  refine z_aload_n rfl rfl ?_
  refine z_getRn (m := 1) rfl fl_X4_10 rfl kd_0 rfl ?_
  refine z_V1v ko1 mv_X4_154 kd_10 (t_X1_become 10 kd_10 1 kd_1 _) rfl rfl rfl rfl rfl (fun _ h1 => ?_)
  refine z_aload_n rfl rfl ?_
  refine z_iconst rfl rfl ?_
  refine z_putL fi_X4_41 rfl kd_0 rfl (fun h2 => ?_)
  refine z_aload_n rfl rfl ?_
  refine z_iconst rfl rfl ?_
  refine z_putL fi_X4_44 rfl kd_0 rfl (fun h3 => ?_)
  refine z_iconst rfl rfl ?_
  refine z_istore_n rfl rfl ?_
  refine Z.weak ?_ (t_X4_tryText_L13   _  ?_  fu _ _)
  · exact wkL_c (wkL_c (wkL_n (wkL_nil _)))
  · intro y9 h10
    refine z_aload_n rfl rfl ?_
    refine z_iload_n rfl rfl ?_
    refine z_iconst rfl rfl ?_
    refine z_aload_n rfl rfl ?_
    refine z_getRn (m := 28) rfl fl_X4_37 rfl kd_0 rfl ?_
    refine z_getI rfl fl_X4_198 rfl kd_28 ?_
    refine z_iload_n rfl rfl ?_
    refine z_isub rfl ?_
    refine z_V3v ko4 mv_X4_201 kd_0 (t_X4_tellFault _ _ _ _) rfl rfl rfl rfl rfl (fun _ h11 => ?_)
    exact z_return rfl rfl
set_option maxRecDepth 20000 in
set_option maxHeartbeats 1000000 in
theorem t_X4_fault (x1 : Int) (h : Hp) : Ct M_X4_fault [vr 0, vi x1] h (f_X4_fault x1 h) := by
  refine Ct.mk ok_X4_fault pl_X4_fault rfl rfl ?_
  show Z M_X4_fault 0 [some (vr 0), some (vi x1)] [] h (f_X4_fault x1 h)
  unfold f_X4_fault
  refine z_iload_n rfl rfl ?_
  refine z_if_lt rfl ?_ ?_
  · refine z_ldc rfl cst_X4_99 rfl ?_
    exact z_ireturn rfl rfl
  · refine z_iload_n rfl rfl ?_
    refine z_iconst rfl rfl ?_
    refine z_icmp_le rfl ?_ ?_
    · refine z_aload_n rfl rfl ?_
      refine z_V0v ko4 mv_X4_189 kd_0 (t_X4_tryText  _) rfl rfl rfl rfl rfl (fun _ h1 => ?_)
      refine z_aload_n rfl rfl ?_
      refine z_getI rfl fl_X4_44 rfl kd_0 ?_
      refine z_iconst rfl rfl ?_
      refine z_icmp_ne rfl ?_ ?_
      · refine z_iload_n rfl rfl ?_
        refine z_if_ne rfl ?_ ?_
        · refine z_iload_n rfl rfl ?_
          refine z_iconst rfl rfl ?_
          refine z_icmp_ne rfl ?_ ?_
          · refine z_aload_n rfl rfl ?_
            refine z_getI rfl fl_X4_50 rfl kd_0 ?_
            exact z_ireturn rfl rfl
          · refine z_aload_n rfl rfl ?_
            refine z_getI rfl fl_X4_47 rfl kd_0 ?_
            refine z_goto rfl ?_
            exact z_ireturn rfl rfl
        · refine z_aload_n rfl rfl ?_
          refine z_getI rfl fl_X4_44 rfl kd_0 ?_
          exact z_ireturn rfl rfl
      · refine z_ldc rfl cst_X4_112 rfl ?_
        exact z_ireturn rfl rfl
    · refine z_ldc rfl cst_X4_99 rfl ?_
      exact z_ireturn rfl rfl
set_option maxRecDepth 20000 in
set_option maxHeartbeats 1000000 in
theorem t_X4_find (x1 : Int) (x2 : Int) (x3 : Int) (x4 : Int) (h : Hp) : Ct M_X4_find [vr 0, vi x1, vi x2, vi x3, vi x4] h (f_X4_find x1 x2 x3 x4 h) := by
  refine Ct.mk ok_X4_find pl_X4_find rfl rfl ?_
  show Z M_X4_find 0 [some (vr 0), some (vi x1), some (vi x2), some (vi x3), some (vi x4)] [] h (f_X4_find x1 x2 x3 x4 h)
  unfold f_X4_find
  refine z_aload_n rfl rfl ?_
  refine z_V0v ko4 mv_X4_53 kd_0 (t_X4_keepState  _) rfl rfl rfl rfl rfl (fun _ h1 => ?_)
  refine z_aload_n rfl rfl ?_
  refine z_aload_n rfl rfl ?_
  refine z_getRn (m := 1) rfl fl_X4_10 rfl kd_0 rfl ?_
  refine z_iload_n rfl rfl ?_
  refine z_iload_n rfl rfl ?_
  refine z_iload_n rfl rfl ?_
  refine z_iload rfl rfl ?_
  refine z_V4i ko1 mv_X4_56 kd_1 (t_X1_takeUmbrella 1 kd_1 _ _ _ _ _) rfl rfl rfl rfl rfl (fun r2 h2 => ?_)
  refine z_V1i ko4 mv_X4_60 kd_0 (t_X4_recorded _ _) rfl rfl rfl rfl rfl (fun r3 h3 => ?_)
  exact z_ireturn rfl rfl
set_option maxRecDepth 20000 in
set_option maxHeartbeats 1000000 in
theorem t_X4_hand  (h : Hp) : Ct M_X4_hand [vr 0] h (f_X4_hand  h) := by
  refine Ct.mk ok_X4_hand pl_X4_hand rfl rfl ?_
  show Z M_X4_hand 0 [some (vr 0)] [] h (f_X4_hand  h)
  unfold f_X4_hand
  refine z_aload_n rfl rfl ?_
  refine z_V0v ko4 mv_X4_53 kd_0 (t_X4_keepState  _) rfl rfl rfl rfl rfl (fun _ h1 => ?_)
  refine z_aload_n rfl rfl ?_
  refine z_getRn (m := 19) rfl fl_X4_22 rfl kd_0 rfl ?_
  refine z_aload_n rfl rfl ?_
  refine z_getRn (m := 1) rfl fl_X4_10 rfl kd_0 rfl ?_
  refine z_V1v ko0 mv_X4_78 kd_19 (t_X0_matchAll 1 kd_1 _) rfl rfl rfl rfl rfl (fun _ h2 => ?_)
  refine z_aload_n rfl rfl ?_
  refine z_aload_n rfl rfl ?_
  refine z_getRn (m := 1) rfl fl_X4_10 rfl kd_0 rfl ?_
  refine z_aload_n rfl rfl ?_
  refine z_getRn (m := 19) rfl fl_X4_22 rfl kd_0 rfl ?_
  refine z_V1i ko1 mv_X4_82 kd_1 (t_X1_handOut 1 kd_1 _) rfl rfl rfl rfl rfl (fun r3 h3 => ?_)
  refine z_V1i ko4 mv_X4_60 kd_0 (t_X4_recorded _ _) rfl rfl rfl rfl rfl (fun r4 h4 => ?_)
  exact z_ireturn rfl rfl
set_option maxRecDepth 20000 in
set_option maxHeartbeats 1000000 in
theorem t_X4_having (x1 : Int) (x2 : Int) (h : Hp) : Ct M_X4_having [vr 0, vi x1, vi x2] h (f_X4_having x1 x2 h) := by
  refine Ct.mk ok_X4_having pl_X4_having rfl rfl ?_
  show Z M_X4_having 0 [some (vr 0), some (vi x1), some (vi x2)] [] h (f_X4_having x1 x2 h)
  unfold f_X4_having
  refine z_iload_n rfl rfl ?_
  refine z_S1i ms_X4_135 (t_X4_isDetail _ _) rfl rfl rfl rfl (fun r1 h1 => ?_)
  refine z_if_eq rfl ?_ ?_
  · refine z_ldc rfl cst_X4_99 rfl ?_
    exact z_ireturn rfl rfl
  · refine z_iload_n rfl rfl ?_
    refine z_S1i ms_X4_138 (t_X4_isValue _ _) rfl rfl rfl rfl (fun r2 h2 => ?_)
    refine z_if_ne rfl ?_ ?_
    · refine z_aload_n rfl rfl ?_
      refine z_getRn (m := 1) rfl fl_X4_10 rfl kd_0 rfl ?_
      refine z_iload_n rfl rfl ?_
      refine z_iload_n rfl rfl ?_
      refine z_V2i ko1 mv_X4_141 kd_1 (t_X1_umbrellasWith 1 kd_1 _ _ _) rfl rfl rfl rfl rfl (fun r3 h3 => ?_)
      exact z_ireturn rfl rfl
    · refine z_ldc rfl cst_X4_99 rfl ?_
      exact z_ireturn rfl rfl
set_option maxRecDepth 20000 in
set_option maxHeartbeats 1000000 in
theorem t_X4_ifTold (x1 : Int) (x2 : Int) (x3 : Int) (h : Hp) : Ct M_X4_ifTold [vr 0, vi x1, vi x2, vi x3] h (f_X4_ifTold x1 x2 x3 h) := by
  refine Ct.mk ok_X4_ifTold pl_X4_ifTold rfl rfl ?_
  show Z M_X4_ifTold 0 [some (vr 0), some (vi x1), some (vi x2), some (vi x3), none] [] h (f_X4_ifTold x1 x2 x3 h)
  unfold f_X4_ifTold
  refine z_aload_n rfl rfl ?_
  refine z_getRn (m := 10) rfl fl_X4_16 rfl kd_0 rfl ?_
  refine z_aload_n rfl rfl ?_
  refine z_getRn (m := 1) rfl fl_X4_10 rfl kd_0 rfl ?_
  refine z_V1v ko1 mv_X4_154 kd_10 (t_X1_become 10 kd_10 1 kd_1 _) rfl rfl rfl rfl rfl (fun _ h1 => ?_)
  refine z_aload_n rfl rfl ?_
  refine z_getRn (m := 10) rfl fl_X4_16 rfl kd_0 rfl ?_
  refine z_iload_n rfl rfl ?_
  refine z_iload_n rfl rfl ?_
  refine z_iload_n rfl rfl ?_
  refine z_V3i ko1 mv_X4_67 kd_10 (t_X1_noteDetail 10 kd_10 _ _ _ _) rfl rfl rfl rfl rfl (fun r2 h2 => ?_)
  refine z_istore rfl rfl ?_
  refine z_iload rfl rfl ?_
  refine z_if_ge rfl ?_ ?_
  · refine z_aload_n rfl rfl ?_
    refine z_getRn (m := 19) rfl fl_X4_22 rfl kd_0 rfl ?_
    refine z_aload_n rfl rfl ?_
    refine z_getRn (m := 10) rfl fl_X4_16 rfl kd_0 rfl ?_
    refine z_V1v ko0 mv_X4_78 kd_19 (t_X0_matchAll 10 kd_10 _) rfl rfl rfl rfl rfl (fun _ h3 => ?_)
    refine z_aload_n rfl rfl ?_
    refine z_getRn (m := 19) rfl fl_X4_22 rfl kd_0 rfl ?_
    refine z_iload_n rfl rfl ?_
    refine z_V1i ko0 mv_X4_119 kd_19 (t_X0_umbrellaMatched _ _) rfl rfl rfl rfl rfl (fun r4 h4 => ?_)
    refine z_S1i ms_X4_122 (t_X4_orNotFound _ _) rfl rfl rfl rfl (fun r5 h5 => ?_)
    exact z_ireturn rfl rfl
  · refine z_iload rfl rfl ?_
    exact z_ireturn rfl rfl
set_option maxRecDepth 20000 in
set_option maxHeartbeats 1000000 in
theorem t_X4_ifWeeks (x1 : Int) (x2 : Int) (h : Hp) : Ct M_X4_ifWeeks [vr 0, vi x1, vi x2] h (f_X4_ifWeeks x1 x2 h) := by
  refine Ct.mk ok_X4_ifWeeks pl_X4_ifWeeks rfl rfl ?_
  show Z M_X4_ifWeeks 0 [some (vr 0), some (vi x1), some (vi x2)] [] h (f_X4_ifWeeks x1 x2 h)
  unfold f_X4_ifWeeks
  refine z_iload_n rfl rfl ?_
  refine z_S1i ms_X4_157 (t_X4_isWeeksAtOnce _ _) rfl rfl rfl rfl (fun r1 h1 => ?_)
  refine z_if_eq rfl ?_ ?_
  · refine z_ldc rfl cst_X4_99 rfl ?_
    exact z_ireturn rfl rfl
  · refine z_iload_n rfl rfl ?_
    refine z_if_lt rfl ?_ ?_
    · refine z_ldc rfl cst_X4_99 rfl ?_
      exact z_ireturn rfl rfl
    · refine z_iload_n rfl rfl ?_
      refine z_iconst rfl rfl ?_
      refine z_icmp_le rfl ?_ ?_
      · refine z_aload_n rfl rfl ?_
        refine z_getRn (m := 10) rfl fl_X4_16 rfl kd_0 rfl ?_
        refine z_aload_n rfl rfl ?_
        refine z_getRn (m := 1) rfl fl_X4_10 rfl kd_0 rfl ?_
        refine z_V1v ko1 mv_X4_154 kd_10 (t_X1_become 10 kd_10 1 kd_1 _) rfl rfl rfl rfl rfl (fun _ h2 => ?_)
        refine z_aload_n rfl rfl ?_
        refine z_getRn (m := 10) rfl fl_X4_16 rfl kd_0 rfl ?_
        refine z_iload_n rfl rfl ?_
        refine z_sipush rfl rfl ?_
        refine z_V2i ko1 mv_X4_74 kd_10 (t_X1_passWeeks 10 kd_10 _ _ _) rfl rfl rfl rfl rfl (fun r3 h3 => ?_)
        refine z_pop rfl rfl ?_
        refine z_iload_n rfl rfl ?_
        refine z_if_ne rfl ?_ ?_
        · refine z_iload_n rfl rfl ?_
          refine z_iconst rfl rfl ?_
          refine z_icmp_ne rfl ?_ ?_
          · refine z_aload_n rfl rfl ?_
            refine z_getRn (m := 19) rfl fl_X4_22 rfl kd_0 rfl ?_
            refine z_aload_n rfl rfl ?_
            refine z_getRn (m := 10) rfl fl_X4_16 rfl kd_0 rfl ?_
            refine z_V1v ko0 mv_X4_78 kd_19 (t_X0_matchAll 10 kd_10 _) rfl rfl rfl rfl rfl (fun _ h4 => ?_)
            refine z_aload_n rfl rfl ?_
            refine z_getRn (m := 19) rfl fl_X4_22 rfl kd_0 rfl ?_
            refine z_getI rfl fl_X4_163 rfl kd_19 ?_
            exact z_ireturn rfl rfl
          · refine z_aload_n rfl rfl ?_
            refine z_getRn (m := 10) rfl fl_X4_16 rfl kd_0 rfl ?_
            refine z_bipush rfl rfl ?_
            refine z_V1i ko1 mv_X4_160 kd_10 (t_X1_sum 10 kd_10 _ _) rfl rfl rfl rfl rfl (fun r5 h5 => ?_)
            refine z_aload_n rfl rfl ?_
            refine z_getRn (m := 1) rfl fl_X4_10 rfl kd_0 rfl ?_
            refine z_bipush rfl rfl ?_
            refine z_V1i ko1 mv_X4_160 kd_1 (t_X1_sum 1 kd_1 _ _) rfl rfl rfl rfl rfl (fun r6 h6 => ?_)
            refine z_isub rfl ?_
            exact z_ireturn rfl rfl
        · refine z_aload_n rfl rfl ?_
          refine z_getRn (m := 10) rfl fl_X4_16 rfl kd_0 rfl ?_
          refine z_bipush rfl rfl ?_
          refine z_V1i ko1 mv_X4_160 kd_10 (t_X1_sum 10 kd_10 _ _) rfl rfl rfl rfl rfl (fun r7 h7 => ?_)
          refine z_aload_n rfl rfl ?_
          refine z_getRn (m := 1) rfl fl_X4_10 rfl kd_0 rfl ?_
          refine z_bipush rfl rfl ?_
          refine z_V1i ko1 mv_X4_160 kd_1 (t_X1_sum 1 kd_1 _ _) rfl rfl rfl rfl rfl (fun r8 h8 => ?_)
          refine z_isub rfl ?_
          exact z_ireturn rfl rfl
      · refine z_ldc rfl cst_X4_99 rfl ?_
        exact z_ireturn rfl rfl
set_option maxRecDepth 20000 in
set_option maxHeartbeats 1000000 in
theorem t_X4_isPair (x1 : Int) (x2 : Int) (h : Hp) : Ct M_X4_isPair [vr 0, vi x1, vi x2] h (f_X4_isPair x1 x2 h) := by
  refine Ct.mk ok_X4_isPair pl_X4_isPair rfl rfl ?_
  show Z M_X4_isPair 0 [some (vr 0), some (vi x1), some (vi x2)] [] h (f_X4_isPair x1 x2 h)
  unfold f_X4_isPair
  refine z_aload_n rfl rfl ?_
  refine z_getRn (m := 1) rfl fl_X4_10 rfl kd_0 rfl ?_
  refine z_getRn (m := 2) rfl fl_X4_89 rfl kd_1 rfl ?_
  refine z_iload_n rfl rfl ?_
  refine z_V1i ko2 mv_X4_93 kd_2 (t_X2_has 2 kd_2 _ _) rfl rfl rfl rfl rfl (fun r1 h1 => ?_)
  refine z_if_eq rfl ?_ ?_
  · refine z_iconst rfl rfl ?_
    exact z_zret0 rfl rfl
  · refine z_aload_n rfl rfl ?_
    refine z_getRn (m := 1) rfl fl_X4_10 rfl kd_0 rfl ?_
    refine z_getRn (m := 4) rfl fl_X4_116 rfl kd_1 rfl ?_
    refine z_iload_n rfl rfl ?_
    refine z_V1i ko2 mv_X4_93 kd_4 (t_X2_has 4 kd_4 _ _) rfl rfl rfl rfl rfl (fun r2 h2 => ?_)
    refine z_if_eq rfl ?_ ?_
    · refine z_iconst rfl rfl ?_
      exact z_zret0 rfl rfl
    · refine z_iconst rfl rfl ?_
      refine z_goto rfl ?_
      exact z_zret1 rfl rfl
set_option maxRecDepth 20000 in
set_option maxHeartbeats 1000000 in
theorem t_X4_mean  (h : Hp) : Ct M_X4_mean [vr 0] h (f_X4_mean  h) := by
  refine Ct.mk ok_X4_mean pl_X4_mean rfl rfl ?_
  show Z M_X4_mean 0 [some (vr 0), none] [] h (f_X4_mean  h)
  unfold f_X4_mean
  refine z_aload_n rfl rfl ?_
  refine z_getRn (m := 19) rfl fl_X4_22 rfl kd_0 rfl ?_
  refine z_aload_n rfl rfl ?_
  refine z_getRn (m := 1) rfl fl_X4_10 rfl kd_0 rfl ?_
  refine z_V1v ko0 mv_X4_78 kd_19 (t_X0_matchAll 1 kd_1 _) rfl rfl rfl rfl rfl (fun _ h1 => ?_)
  refine z_aload_n rfl rfl ?_
  refine z_getRn (m := 19) rfl fl_X4_22 rfl kd_0 rfl ?_
  refine z_getI rfl fl_X4_163 rfl kd_19 ?_
  refine z_istore_nL rfl rfl (fun y2 => ?_)
  refine z_iload_n rfl rfl ?_
  refine z_if_gt rfl ?_ ?_
  · refine z_aload_n rfl rfl ?_
    refine z_getRn (m := 19) rfl fl_X4_22 rfl kd_0 rfl ?_
    refine z_V0i ko0 mv_X4_166 kd_19 (t_X0_worthOfMatched  _) rfl rfl rfl rfl rfl (fun r3 h3 => ?_)
    refine z_i2f rfl ?_
    refine z_iload_n rfl rfl ?_
    refine z_i2f rfl ?_
    refine z_fdiv rfl ?_
    refine z_S1i ms_X4_170 (t_X4_bitsOf _ _) rfl rfl rfl rfl (fun r4 h4 => ?_)
    exact z_ireturn rfl rfl
  · refine z_ldc rfl cst_X4_112 rfl ?_
    exact z_ireturn rfl rfl
set_option maxRecDepth 20000 in
set_option maxHeartbeats 1000000 in
theorem t_X4_oddest_L6  : ∀ (n : Nat) (x1 : Int) (x2 : Int) (x3 : Int) (h : Hp), Z M_X4_oddest 6 [some (vr 0), some (vi x1), some (vi x2), some (vi x3), none] [] h (f_X4_oddest_L6  n x1 x2 x3 h) := by
  intro n
  induction n with
  | zero => intro x1 x2 x3 h; exact Z.nix
  | succ n ih =>
    intro x1 x2 x3 h
    rw [f_X4_oddest_L6_s]
    refine z_iload_n rfl rfl ?_
    refine z_aload_n rfl rfl ?_
    refine z_getRn (m := 1) rfl fl_X4_10 rfl kd_0 rfl ?_
    refine z_getRn (m := 2) rfl fl_X4_89 rfl kd_1 rfl ?_
    refine z_getI rfl fl_X4_147 rfl kd_2 ?_
    refine z_icmp_ge rfl ?_ ?_
    · refine z_iload_n rfl rfl ?_
      refine z_S1i ms_X4_122 (t_X4_orNotFound _ _) rfl rfl rfl rfl (fun r1 h1 => ?_)
      exact z_ireturn rfl rfl
    · refine z_aload_n rfl rfl ?_
      refine z_getRn (m := 1) rfl fl_X4_10 rfl kd_0 rfl ?_
      refine z_iload_n rfl rfl ?_
      refine z_V1i ko1 mv_X4_103 kd_1 (t_X1_oddnessTogether 1 kd_1 _ _) rfl rfl rfl rfl rfl (fun r2 h2 => ?_)
      refine z_istore rfl rfl ?_
      refine z_iload_n rfl rfl ?_
      refine z_iconst rfl rfl ?_
      refine z_icmp_eq rfl ?_ ?_
      · refine z_iload_n rfl rfl ?_
        refine z_istore_n rfl rfl ?_
        refine z_iload rfl rfl ?_
        refine z_istore_n rfl rfl ?_
        refine z_iinc rfl rfl rfl ?_
        refine z_goto rfl ?_
        refine Z.weak ?_ (ih _ _ _ _)
        exact wkL_c (wkL_c (wkL_c (wkL_c (wkL_n (wkL_nil _)))))
      · refine z_iload rfl rfl ?_
        refine z_iload_n rfl rfl ?_
        refine z_icmp_le rfl ?_ ?_
        · refine z_iinc rfl rfl rfl ?_
          refine z_goto rfl ?_
          refine Z.weak ?_ (ih _ _ _ _)
          exact wkL_c (wkL_c (wkL_c (wkL_c (wkL_n (wkL_nil _)))))
        · refine z_iload_n rfl rfl ?_
          refine z_istore_n rfl rfl ?_
          refine z_iload rfl rfl ?_
          refine z_istore_n rfl rfl ?_
          refine z_iinc rfl rfl rfl ?_
          refine z_goto rfl ?_
          refine Z.weak ?_ (ih _ _ _ _)
          exact wkL_c (wkL_c (wkL_c (wkL_c (wkL_n (wkL_nil _)))))
set_option maxRecDepth 20000 in
set_option maxHeartbeats 1000000 in
theorem t_X4_oddest  (h : Hp) : Ct M_X4_oddest [vr 0] h (f_X4_oddest  h) := by
  refine Ct.mk ok_X4_oddest pl_X4_oddest rfl rfl ?_
  show Z M_X4_oddest 0 [some (vr 0), none, none, none, none] [] h (f_X4_oddest  h)
  unfold f_X4_oddest
  refine z_iconst rfl rfl ?_
  refine z_istore_n rfl rfl ?_
  refine z_iconst rfl rfl ?_
  refine z_istore_n rfl rfl ?_
  refine z_iconst rfl rfl ?_
  refine z_istore_n rfl rfl ?_
  refine Z.weak ?_ (t_X4_oddest_L6      fu _ _ _ _)
  · exact wkL_c (wkL_c (wkL_c (wkL_c (wkL_n (wkL_nil _)))))
set_option maxRecDepth 20000 in
set_option maxHeartbeats 1000000 in
theorem t_X4_play  (h : Hp) : Ct M_X4_play [vr 0] h (f_X4_play  h) := by
  refine Ct.mk ok_X4_play pl_X4_play rfl rfl ?_
  show Z M_X4_play 0 [some (vr 0)] [] h (f_X4_play  h)
  unfold f_X4_play
  refine z_aload_n rfl rfl ?_
  refine z_V0v ko4 mv_X4_189 kd_0 (t_X4_tryText  _) rfl rfl rfl rfl rfl (fun _ h1 => ?_)
  refine z_aload_n rfl rfl ?_
  refine z_getI rfl fl_X4_44 rfl kd_0 ?_
  refine z_iconst rfl rfl ?_
  refine z_icmp_eq rfl ?_ ?_
  · refine z_aload_n rfl rfl ?_
    refine z_V0v ko4 mv_X4_53 kd_0 (t_X4_keepState  _) rfl rfl rfl rfl rfl (fun _ h2 => ?_)
    refine z_aload_n rfl rfl ?_
    refine z_getRn (m := 1) rfl fl_X4_10 rfl kd_0 rfl ?_
    refine z_aload_n rfl rfl ?_
    refine z_getRn (m := 10) rfl fl_X4_16 rfl kd_0 rfl ?_
    refine z_V1v ko1 mv_X4_154 kd_1 (t_X1_become 1 kd_1 10 kd_10 _) rfl rfl rfl rfl rfl (fun _ h3 => ?_)
    refine z_aload_n rfl rfl ?_
    refine z_aload_n rfl rfl ?_
    refine z_getI rfl fl_X4_41 rfl kd_0 ?_
    refine z_V1i ko4 mv_X4_60 kd_0 (t_X4_recorded _ _) rfl rfl rfl rfl rfl (fun r4 h4 => ?_)
    exact z_ireturn rfl rfl
  · refine z_ldc rfl cst_X4_183 rfl ?_
    exact z_ireturn rfl rfl
set_option maxRecDepth 20000 in
set_option maxHeartbeats 1000000 in
theorem t_X4_points (x1 : Int) (x2 : Int) (h : Hp) : Ct M_X4_points [vr 0, vi x1, vi x2] h (f_X4_points x1 x2 h) := by
  refine Ct.mk ok_X4_points pl_X4_points rfl rfl ?_
  show Z M_X4_points 0 [some (vr 0), some (vi x1), some (vi x2)] [] h (f_X4_points x1 x2 h)
  unfold f_X4_points
  refine z_aload_n rfl rfl ?_
  refine z_iload_n rfl rfl ?_
  refine z_iload_n rfl rfl ?_
  refine z_V2i ko4 mv_X4_128 kd_0 (t_X4_isPair _ _ _) rfl rfl rfl rfl rfl (fun r1 h1 => ?_)
  refine z_if_ne rfl ?_ ?_
  · refine z_aload_n rfl rfl ?_
    refine z_getRn (m := 19) rfl fl_X4_22 rfl kd_0 rfl ?_
    refine z_aload_n rfl rfl ?_
    refine z_getRn (m := 1) rfl fl_X4_10 rfl kd_0 rfl ?_
    refine z_V1v ko0 mv_X4_132 kd_19 (t_X0_weighAll 1 kd_1 _) rfl rfl rfl rfl rfl (fun _ h2 => ?_)
    refine z_sipush rfl rfl ?_
    refine z_aload_n rfl rfl ?_
    refine z_getRn (m := 19) rfl fl_X4_22 rfl kd_0 rfl ?_
    refine z_iload_n rfl rfl ?_
    refine z_iload_n rfl rfl ?_
    refine z_V2i ko0 mv_X4_113 kd_19 (t_X0_worthOf _ _ _) rfl rfl rfl rfl rfl (fun r3 h3 => ?_)
    refine z_iadd rfl ?_
    exact z_ireturn rfl rfl
  · refine z_ldc rfl cst_X4_99 rfl ?_
    exact z_ireturn rfl rfl
set_option maxRecDepth 20000 in
set_option maxHeartbeats 1000000 in
theorem t_X4_set (x1 : Int) (x2 : Int) (h : Hp) : Ct M_X4_set [vr 0, vi x1, vi x2] h (f_X4_set x1 x2 h) := by
  refine Ct.mk ok_X4_set pl_X4_set rfl rfl ?_
  show Z M_X4_set 0 [some (vr 0), some (vi x1), some (vi x2)] [] h (f_X4_set x1 x2 h)
  unfold f_X4_set
  refine z_aload_n rfl rfl ?_
  refine z_V0v ko4 mv_X4_53 kd_0 (t_X4_keepState  _) rfl rfl rfl rfl rfl (fun _ h1 => ?_)
  refine z_aload_n rfl rfl ?_
  refine z_aload_n rfl rfl ?_
  refine z_getRn (m := 1) rfl fl_X4_10 rfl kd_0 rfl ?_
  refine z_iload_n rfl rfl ?_
  refine z_iload_n rfl rfl ?_
  refine z_V2i ko1 mv_X4_86 kd_1 (t_X1_changeSetting 1 kd_1 _ _ _) rfl rfl rfl rfl rfl (fun r2 h2 => ?_)
  refine z_V1i ko4 mv_X4_60 kd_0 (t_X4_recorded _ _) rfl rfl rfl rfl rfl (fun r3 h3 => ?_)
  exact z_ireturn rfl rfl
set_option maxRecDepth 20000 in
set_option maxHeartbeats 1000000 in
theorem t_X4_tell (x1 : Int) (x2 : Int) (x3 : Int) (h : Hp) : Ct M_X4_tell [vr 0, vi x1, vi x2, vi x3] h (f_X4_tell x1 x2 x3 h) := by
  refine Ct.mk ok_X4_tell pl_X4_tell rfl rfl ?_
  show Z M_X4_tell 0 [some (vr 0), some (vi x1), some (vi x2), some (vi x3)] [] h (f_X4_tell x1 x2 x3 h)
  unfold f_X4_tell
  refine z_aload_n rfl rfl ?_
  refine z_V0v ko4 mv_X4_53 kd_0 (t_X4_keepState  _) rfl rfl rfl rfl rfl (fun _ h1 => ?_)
  refine z_aload_n rfl rfl ?_
  refine z_aload_n rfl rfl ?_
  refine z_getRn (m := 1) rfl fl_X4_10 rfl kd_0 rfl ?_
  refine z_iload_n rfl rfl ?_
  refine z_iload_n rfl rfl ?_
  refine z_iload_n rfl rfl ?_
  refine z_V3i ko1 mv_X4_67 kd_1 (t_X1_noteDetail 1 kd_1 _ _ _ _) rfl rfl rfl rfl rfl (fun r2 h2 => ?_)
  refine z_V1i ko4 mv_X4_60 kd_0 (t_X4_recorded _ _) rfl rfl rfl rfl rfl (fun r3 h3 => ?_)
  exact z_ireturn rfl rfl
set_option maxRecDepth 20000 in
set_option maxHeartbeats 1000000 in
theorem t_X4_type (x1 : Int) (h : Hp) : Ct M_X4_type [vr 0, vi x1] h (f_X4_type x1 h) := by
  refine Ct.mk ok_X4_type pl_X4_type rfl rfl ?_
  show Z M_X4_type 0 [some (vr 0), some (vi x1)] [] h (f_X4_type x1 h)
  unfold f_X4_type
  refine z_iload_n rfl rfl ?_
  refine z_bipush rfl rfl ?_
  refine z_icmp_lt rfl ?_ ?_
  · refine z_ldc rfl cst_X4_99 rfl ?_
    exact z_ireturn rfl rfl
  · refine z_iload_n rfl rfl ?_
    refine z_bipush rfl rfl ?_
    refine z_icmp_le rfl ?_ ?_
    · refine z_aload_n rfl rfl ?_
      refine z_getRn (m := 28) rfl fl_X4_37 rfl kd_0 rfl ?_
      refine z_iload_n rfl rfl ?_
      refine z_i2c rfl ?_
      refine z_V1i ko3 mv_X4_184 kd_28 (t_X3_append _ _) rfl rfl rfl rfl rfl (fun r1 h1 => ?_)
      refine z_if_eq rfl ?_ ?_
      · refine z_ldc rfl cst_X4_188 rfl ?_
        exact z_ireturn rfl rfl
      · refine z_aload_n rfl rfl ?_
        refine z_getRn (m := 28) rfl fl_X4_37 rfl kd_0 rfl ?_
        refine z_getI rfl fl_X4_180 rfl kd_28 ?_
        refine z_goto rfl ?_
        exact z_ireturn rfl rfl
    · refine z_ldc rfl cst_X4_99 rfl ?_
      exact z_ireturn rfl rfl
set_option maxRecDepth 20000 in
set_option maxHeartbeats 1000000 in
theorem t_X4_umbrella (x1 : Int) (x2 : Int) (h : Hp) : Ct M_X4_umbrella [vr 0, vi x1, vi x2] h (f_X4_umbrella x1 x2 h) := by
  refine Ct.mk ok_X4_umbrella pl_X4_umbrella rfl rfl ?_
  show Z M_X4_umbrella 0 [some (vr 0), some (vi x1), some (vi x2), none] [] h (f_X4_umbrella x1 x2 h)
  unfold f_X4_umbrella
  refine z_aload_n rfl rfl ?_
  refine z_getRn (m := 1) rfl fl_X4_10 rfl kd_0 rfl ?_
  refine z_getRn (m := 2) rfl fl_X4_89 rfl kd_1 rfl ?_
  refine z_iload_n rfl rfl ?_
  refine z_V1i ko2 mv_X4_93 kd_2 (t_X2_has 2 kd_2 _ _) rfl rfl rfl rfl rfl (fun r1 h1 => ?_)
  refine z_if_eq rfl ?_ ?_
  · refine z_ldc rfl cst_X4_99 rfl ?_
    exact z_ireturn rfl rfl
  · refine z_iload_n rfl rfl ?_
    refine z_if_lt rfl ?_ ?_
    · refine z_ldc rfl cst_X4_99 rfl ?_
      exact z_ireturn rfl rfl
    · refine z_iload_n rfl rfl ?_
      refine z_bipush rfl rfl ?_
      refine z_icmp_le rfl ?_ ?_
      · refine z_iload_n rfl rfl ?_
        refine z_iconst rfl rfl ?_
        refine z_icmp_gt rfl ?_ ?_
        · refine z_iload_n rfl rfl ?_
          refine z_bipush rfl rfl ?_
          refine z_icmp_ne rfl ?_ ?_
          · refine z_aload_n rfl rfl ?_
            refine z_getRn (m := 19) rfl fl_X4_22 rfl kd_0 rfl ?_
            refine z_aload_n rfl rfl ?_
            refine z_getRn (m := 1) rfl fl_X4_10 rfl kd_0 rfl ?_
            refine z_V1v ko0 mv_X4_78 kd_19 (t_X0_matchAll 1 kd_1 _) rfl rfl rfl rfl rfl (fun _ h2 => ?_)
            refine z_iload_n rfl rfl ?_
            refine z_bipush rfl rfl ?_
            refine z_icmp_ne rfl ?_ ?_
            · refine z_aload_n rfl rfl ?_
              refine z_getRn (m := 19) rfl fl_X4_22 rfl kd_0 rfl ?_
              refine z_iload_n rfl rfl ?_
              refine z_V1i ko0 mv_X4_109 kd_19 (t_X0_claimMatched _ _) rfl rfl rfl rfl rfl (fun r3 h3 => ?_)
              refine z_istore_n rfl rfl ?_
              refine z_iload_n rfl rfl ?_
              refine z_iconst rfl rfl ?_
              refine z_icmp_ne rfl ?_ ?_
              · refine z_iload_n rfl rfl ?_
                refine z_iconst rfl rfl ?_
                refine z_icmp_ne rfl ?_ ?_
                · refine z_aload_n rfl rfl ?_
                  refine z_getRn (m := 19) rfl fl_X4_22 rfl kd_0 rfl ?_
                  refine z_iload_n rfl rfl ?_
                  refine z_iload_n rfl rfl ?_
                  refine z_V2i ko0 mv_X4_113 kd_19 (t_X0_worthOf _ _ _) rfl rfl rfl rfl rfl (fun r4 h4 => ?_)
                  exact z_ireturn rfl rfl
                · refine z_iload_n rfl rfl ?_
                  refine z_goto rfl ?_
                  exact z_ireturn rfl rfl
              · refine z_ldc rfl cst_X4_112 rfl ?_
                exact z_ireturn rfl rfl
            · refine z_aload_n rfl rfl ?_
              refine z_getRn (m := 19) rfl fl_X4_22 rfl kd_0 rfl ?_
              refine z_iload_n rfl rfl ?_
              refine z_V1i ko0 mv_X4_106 kd_19 (t_X0_claimsSuiting _ _) rfl rfl rfl rfl rfl (fun r5 h5 => ?_)
              exact z_ireturn rfl rfl
          · refine z_aload_n rfl rfl ?_
            refine z_getRn (m := 1) rfl fl_X4_10 rfl kd_0 rfl ?_
            refine z_iload_n rfl rfl ?_
            refine z_V1i ko1 mv_X4_103 kd_1 (t_X1_oddnessTogether 1 kd_1 _ _) rfl rfl rfl rfl rfl (fun r6 h6 => ?_)
            exact z_ireturn rfl rfl
        · refine z_aload_n rfl rfl ?_
          refine z_getRn (m := 1) rfl fl_X4_10 rfl kd_0 rfl ?_
          refine z_getRn (m := 2) rfl fl_X4_89 rfl kd_1 rfl ?_
          refine z_iload_n rfl rfl ?_
          refine z_iload_n rfl rfl ?_
          refine z_V2i ko2 mv_X4_100 kd_2 (t_X2_cell 2 kd_2 _ _ _) rfl rfl rfl rfl rfl (fun r7 h7 => ?_)
          exact z_ireturn rfl rfl
      · refine z_ldc rfl cst_X4_99 rfl ?_
        exact z_ireturn rfl rfl
set_option maxRecDepth 20000 in
set_option maxHeartbeats 1000000 in
theorem t_X4_undo  (h : Hp) : Ct M_X4_undo [vr 0] h (f_X4_undo  h) := by
  refine Ct.mk ok_X4_undo pl_X4_undo rfl rfl ?_
  show Z M_X4_undo 0 [some (vr 0)] [] h (f_X4_undo  h)
  unfold f_X4_undo
  refine z_aload_n rfl rfl ?_
  refine z_getI rfl fl_X4_30 rfl kd_0 ?_
  refine z_if_le rfl ?_ ?_
  · refine z_ldc rfl cst_X4_183 rfl ?_
    exact z_ireturn rfl rfl
  · refine z_aload_n rfl rfl ?_
    refine z_getI rfl fl_X4_30 rfl kd_0 ?_
    refine z_aload_n rfl rfl ?_
    refine z_getRn (m := 27) rfl fl_X4_26 rfl kd_0 rfl ?_
    refine z_alen (c := 3) rfl kd_27 (by omega) ?_
    refine z_icmp_le rfl ?_ ?_
    · refine z_aload_n rfl rfl ?_
      refine z_dup rfl rfl ?_
      refine z_getI rfl fl_X4_30 rfl kd_0 ?_
      refine z_iconst rfl rfl ?_
      refine z_isub rfl ?_
      refine z_putL fi_X4_30 rfl kd_0 rfl (fun h1 => ?_)
      refine z_aload_n rfl rfl ?_
      refine z_getRn (m := 1) rfl fl_X4_10 rfl kd_0 rfl ?_
      refine z_aload_n rfl rfl ?_
      refine z_getRn (m := 27) rfl fl_X4_26 rfl kd_0 rfl ?_
      refine z_aload_n rfl rfl ?_
      refine z_getI rfl fl_X4_30 rfl kd_0 ?_
      refine z_aaload rfl kd_27 (fun q2 => ?_)
      refine z_V1v ko1 mv_X4_154 kd_1 (t_X1_become 1 kd_1 (Int.toNat (h1 27 (Int.toNat (h1 0 4)))) q2 _) rfl rfl rfl rfl rfl (fun _ h3 => ?_)
      refine z_aload_n rfl rfl ?_
      refine z_getI rfl fl_X4_30 rfl kd_0 ?_
      exact z_ireturn rfl rfl
    · refine z_ldc rfl cst_X4_183 rfl ?_
      exact z_ireturn rfl rfl
set_option maxRecDepth 20000 in
set_option maxHeartbeats 1000000 in
theorem t_X4_weeks (x1 : Int) (h : Hp) : Ct M_X4_weeks [vr 0, vi x1] h (f_X4_weeks x1 h) := by
  refine Ct.mk ok_X4_weeks pl_X4_weeks rfl rfl ?_
  show Z M_X4_weeks 0 [some (vr 0), some (vi x1)] [] h (f_X4_weeks x1 h)
  unfold f_X4_weeks
  refine z_aload_n rfl rfl ?_
  refine z_V0v ko4 mv_X4_53 kd_0 (t_X4_keepState  _) rfl rfl rfl rfl rfl (fun _ h1 => ?_)
  refine z_aload_n rfl rfl ?_
  refine z_aload_n rfl rfl ?_
  refine z_getRn (m := 1) rfl fl_X4_10 rfl kd_0 rfl ?_
  refine z_iload_n rfl rfl ?_
  refine z_sipush rfl rfl ?_
  refine z_V2i ko1 mv_X4_74 kd_1 (t_X1_passWeeks 1 kd_1 _ _ _) rfl rfl rfl rfl rfl (fun r2 h2 => ?_)
  refine z_V1i ko4 mv_X4_60 kd_0 (t_X4_recorded _ _) rfl rfl rfl rfl rfl (fun r3 h3 => ?_)
  exact z_ireturn rfl rfl
set_option maxRecDepth 20000 in
set_option maxHeartbeats 1000000 in
theorem t_X4_why (x1 : Int) (x2 : Int) (h : Hp) : Ct M_X4_why [vr 0, vi x1, vi x2] h (f_X4_why x1 x2 h) := by
  refine Ct.mk ok_X4_why pl_X4_why rfl rfl ?_
  show Z M_X4_why 0 [some (vr 0), some (vi x1), some (vi x2)] [] h (f_X4_why x1 x2 h)
  unfold f_X4_why
  refine z_aload_n rfl rfl ?_
  refine z_iload_n rfl rfl ?_
  refine z_iload_n rfl rfl ?_
  refine z_V2i ko4 mv_X4_128 kd_0 (t_X4_isPair _ _ _) rfl rfl rfl rfl rfl (fun r1 h1 => ?_)
  refine z_if_ne rfl ?_ ?_
  · refine z_aload_n rfl rfl ?_
    refine z_getRn (m := 19) rfl fl_X4_22 rfl kd_0 rfl ?_
    refine z_aload_n rfl rfl ?_
    refine z_getRn (m := 1) rfl fl_X4_10 rfl kd_0 rfl ?_
    refine z_V1v ko0 mv_X4_78 kd_19 (t_X0_matchAll 1 kd_1 _) rfl rfl rfl rfl rfl (fun _ h2 => ?_)
    refine z_aload_n rfl rfl ?_
    refine z_getRn (m := 19) rfl fl_X4_22 rfl kd_0 rfl ?_
    refine z_iload_n rfl rfl ?_
    refine z_iload_n rfl rfl ?_
    refine z_aload_n rfl rfl ?_
    refine z_getRn (m := 1) rfl fl_X4_10 rfl kd_0 rfl ?_
    refine z_V3i ko0 mv_X4_150 kd_19 (t_X0_reasonAgainst _ _ 1 kd_1 _) rfl rfl rfl rfl rfl (fun r3 h3 => ?_)
    exact z_ireturn rfl rfl
  · refine z_ldc rfl cst_X4_99 rfl ?_
    exact z_ireturn rfl rfl
