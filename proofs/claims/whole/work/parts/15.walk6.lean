/-! printed by wip/gen/gen.py: the bytecode does what the functions say -/
set_option maxRecDepth 20000 in
set_option maxHeartbeats 1000000 in
theorem t_X5_handsOut_L6 (x1 : Int) (x2 : Int) (c44 : Hp → Option (Int × Hp)) (hc44 : ∀ (h : Hp), Z M_X5_handsOut 44 [some (vr 76), some (vi x1), some (vi x2), none, none] [] h (c44  h)) : ∀ (n : Nat) (x3 : Int) (h : Hp), Z M_X5_handsOut 6 [some (vr 76), some (vi x1), some (vi x2), some (vi x3), none] [] h (f_X5_handsOut_L6 x1 x2 c44 n x3 h) := by
  intro n
  induction n with
  | zero => intro x3 h; exact Z.nix
  | succ n ih =>
    intro x3 h
    rw [f_X5_handsOut_L6_s]
    refine z_iload_n rfl rfl ?_
    refine z_aload_n rfl rfl ?_
    refine z_getRn (m := 77) rfl fl_X5_7 rfl kd_76 rfl ?_
    refine z_iload_n rfl rfl ?_
    refine z_bipush rfl rfl ?_
    refine z_iadd rfl ?_
    refine z_iaload rfl kd_77 ?_
    refine z_icmp_ge rfl ?_ ?_
    · refine Z.weak ?_ (hc44 _)
      exact wkL_c (wkL_c (wkL_c (wkL_n (wkL_n (wkL_nil _)))))
    · refine z_aload_n rfl rfl ?_
      refine z_getRn (m := 79) rfl fl_X5_16 rfl kd_76 rfl ?_
      refine z_iload_n rfl rfl ?_
      refine z_iaload rfl kd_79 ?_
      refine z_iconst rfl rfl ?_
      refine z_icmp_eq rfl ?_ ?_
      · refine z_iinc rfl rfl rfl ?_
        refine z_goto rfl ?_
        refine Z.weak ?_ (ih _ _)
        exact wkL_c (wkL_c (wkL_c (wkL_c (wkL_n (wkL_nil _)))))
      · refine z_aload_n rfl rfl ?_
        refine z_getRn (m := 77) rfl fl_X5_7 rfl kd_76 rfl ?_
        refine z_iload_n rfl rfl ?_
        refine z_iload_n rfl rfl ?_
        refine z_S2i ms_X5_39 (t_X5_umbrellaAt _ _ _) rfl rfl rfl rfl (fun r2 h2 => ?_)
        refine z_iconst rfl rfl ?_
        refine z_iadd rfl ?_
        refine z_iaload rfl kd_77 ?_
        refine z_istoreL rfl rfl (fun y3 => ?_)
        refine z_aload_n rfl rfl ?_
        refine z_iload_n rfl rfl ?_
        refine z_iconst rfl rfl ?_
        refine z_iload rfl rfl ?_
        refine z_iload rfl rfl ?_
        refine z_aload_n rfl rfl ?_
        refine z_getRn (m := 77) rfl fl_X5_7 rfl kd_76 rfl ?_
        refine z_iload_n rfl rfl ?_
        refine z_iconst rfl rfl ?_
        refine z_iadd rfl ?_
        refine z_iaload rfl kd_77 ?_
        refine z_imul rfl ?_
        refine z_V4v ko5 mv_X5_71 kd_76 (t_X5_writes _ _ _ _ _) rfl rfl rfl rfl rfl (fun _ h4 => ?_)
        refine z_iinc rfl rfl rfl ?_
        refine z_goto rfl ?_
        refine Z.weak ?_ (ih _ _)
        exact wkL_c (wkL_c (wkL_c (wkL_c (wkL_n (wkL_nil _)))))
set_option maxRecDepth 20000 in
set_option maxHeartbeats 1000000 in
theorem t_X5_handsOut_J58 (c46 : Int → Hp → Option (Int × Hp)) (x1 : Int) (x2 : Int) (x3 : Int) (hc46 : ∀ (y3 : Int) (h : Hp), Z M_X5_handsOut 46 [some (vr 76), some (vi x1), some (vi x2), some (vi y3), none] [] h (c46 y3 h)) (h : Hp) : Z M_X5_handsOut 58 [some (vr 76), some (vi x1), some (vi x2), some (vi x3), none] [] h (f_X5_handsOut_J58 c46 x1 x2 x3 h) := by
  unfold f_X5_handsOut_J58
  refine z_aload_n rfl rfl ?_
  refine z_getRn (m := 80) rfl fl_X5_19 rfl kd_76 rfl ?_
  refine z_iload_n rfl rfl ?_
  refine z_iaload rfl kd_80 ?_
  refine z_iconst rfl rfl ?_
  refine z_icmp_eq rfl ?_ ?_
  · refine z_iinc rfl rfl rfl ?_
    refine z_goto rfl ?_
    refine Z.weak ?_ (hc46 _ _)
    exact wkL_c (wkL_c (wkL_c (wkL_c (wkL_n (wkL_nil _)))))
  · refine z_aload_n rfl rfl ?_
    refine z_iload_n rfl rfl ?_
    refine z_iload_n rfl rfl ?_
    refine z_V2v ko5 mv_X5_78 kd_76 (t_X5_claimGoes _ _ _) rfl rfl rfl rfl rfl (fun _ h6 => ?_)
    refine z_iinc rfl rfl rfl ?_
    refine z_goto rfl ?_
    refine Z.weak ?_ (hc46 _ _)
    exact wkL_c (wkL_c (wkL_c (wkL_c (wkL_n (wkL_nil _)))))
set_option maxRecDepth 20000 in
set_option maxHeartbeats 1000000 in
theorem t_X5_handsOut_L46 (x1 : Int) (x2 : Int) (c70 : Hp → Option (Int × Hp)) (hc70 : ∀ (h : Hp), Z M_X5_handsOut 70 [some (vr 76), some (vi x1), some (vi x2), none, none] [] h (c70  h)) : ∀ (n : Nat) (x3 : Int) (h : Hp), Z M_X5_handsOut 46 [some (vr 76), some (vi x1), some (vi x2), some (vi x3), none] [] h (f_X5_handsOut_L46 x1 x2 c70 n x3 h) := by
  intro n
  induction n with
  | zero => intro x3 h; exact Z.nix
  | succ n ih =>
    intro x3 h
    rw [f_X5_handsOut_L46_s]
    refine z_iload_n rfl rfl ?_
    refine z_if_lt rfl ?_ ?_
    · refine Z.weak ?_ (hc70 _)
      exact wkL_c (wkL_c (wkL_c (wkL_n (wkL_n (wkL_nil _)))))
    · refine z_aload_n rfl rfl ?_
      refine z_getRn (m := 79) rfl fl_X5_16 rfl kd_76 rfl ?_
      refine z_iload_n rfl rfl ?_
      refine z_iaload rfl kd_79 ?_
      refine z_iconst rfl rfl ?_
      refine z_icmp_eq rfl ?_ ?_
      · refine Z.weak ?_ (t_X5_handsOut_J58  _ _ _ _ ih _)
        exact wkL_c (wkL_c (wkL_c (wkL_c (wkL_n (wkL_nil _)))))
      · refine z_aload_n rfl rfl ?_
        refine z_iload_n rfl rfl ?_
        refine z_iload_n rfl rfl ?_
        refine z_V2v ko5 mv_X5_75 kd_76 (t_X5_umbrellaGoes _ _ _) rfl rfl rfl rfl rfl (fun _ h7 => ?_)
        refine Z.weak ?_ (t_X5_handsOut_J58  _ _ _ _ ih _)
        exact wkL_c (wkL_c (wkL_c (wkL_c (wkL_n (wkL_nil _)))))
set_option maxRecDepth 20000 in
set_option maxHeartbeats 1000000 in
theorem t_X5_handsOut (x1 : Int) (h : Hp) : Ct M_X5_handsOut [vr 76, vi x1] h (f_X5_handsOut x1 h) := by
  refine Ct.mk ok_X5_handsOut pl_X5_handsOut rfl rfl ?_
  show Z M_X5_handsOut 0 [some (vr 76), some (vi x1), none, none, none] [] h (f_X5_handsOut x1 h)
  unfold f_X5_handsOut
  refine z_aload_n rfl rfl ?_
  refine z_iload_n rfl rfl ?_
  refine z_V1i ko5 mv_X5_87 kd_76 (t_X5_matches _ _) rfl rfl rfl rfl rfl (fun r1 h1 => ?_)
  refine z_istore_n rfl rfl ?_
  refine z_iconst rfl rfl ?_
  refine z_istore_n rfl rfl ?_
  refine Z.weak ?_ (t_X5_handsOut_L6  _ _  _  ?_  fu _ _)
  · exact wkL_c (wkL_c (wkL_c (wkL_c (wkL_n (wkL_nil _)))))
  · intro h5
    refine z_bipush rfl rfl ?_
    refine z_istore_n rfl rfl ?_
    refine Z.weak ?_ (t_X5_handsOut_L46  _ _  _  ?_  fu _ _)
    · exact wkL_c (wkL_c (wkL_c (wkL_c (wkL_n (wkL_nil _)))))
    · intro h8
      refine z_aload_n rfl rfl ?_
      refine z_getRn (m := 77) rfl fl_X5_7 rfl kd_76 rfl ?_
      refine z_iload_n rfl rfl ?_
      refine z_bipush rfl rfl ?_
      refine z_iadd rfl ?_
      refine z_dup2 rfl rfl rfl ?_
      refine z_iaload rfl kd_77 ?_
      refine z_iload_n rfl rfl ?_
      refine z_iadd rfl ?_
      refine z_iastoreL kd_77 rfl (fun h9 => ?_)
      refine z_iload_n rfl rfl ?_
      exact z_ireturn rfl rfl
set_option maxRecDepth 20000 in
set_option maxHeartbeats 1000000 in
theorem t_X5_isDetail (x0 : Int) (x1 : Int) (h : Hp) : Ct M_X5_isDetail [vi x0, vi x1] h (f_X5_isDetail x0 x1 h) := by
  refine Ct.mk ok_X5_isDetail pl_X5_isDetail rfl rfl ?_
  show Z M_X5_isDetail 0 [some (vi x0), some (vi x1)] [] h (f_X5_isDetail x0 x1 h)
  unfold f_X5_isDetail
  refine z_iload_n rfl rfl ?_
  refine z_iconst rfl rfl ?_
  refine z_iconst rfl rfl ?_
  refine z_S3i ms_X5_90 (t_X5_in _ _ _ _) rfl rfl rfl rfl (fun r1 h1 => ?_)
  refine z_if_eq rfl ?_ ?_
  · refine z_iconst rfl rfl ?_
    exact z_zret0 rfl rfl
  · refine z_iload_n rfl rfl ?_
    refine z_iconst rfl rfl ?_
    refine z_bipush rfl rfl ?_
    refine z_S3i ms_X5_90 (t_X5_in _ _ _ _) rfl rfl rfl rfl (fun r2 h2 => ?_)
    refine z_if_eq rfl ?_ ?_
    · refine z_iconst rfl rfl ?_
      exact z_zret0 rfl rfl
    · refine z_iconst rfl rfl ?_
      refine z_goto rfl ?_
      exact z_zret1 rfl rfl
set_option maxRecDepth 20000 in
set_option maxHeartbeats 1000000 in
theorem t_X5_tells_J41 (x3 : Int) (x4 : Int) (x5 : Int) (s1 : Int) (s2 : Int) (s3 : Int) (h : Hp) : Z M_X5_tells 41 [some (vr 76), none, none, some (vi x3), some (vi x4), some (vi x5)] [vi s3, vi s2, vi s1, vr 77] h (f_X5_tells_J41 x3 x4 x5 s1 s2 s3 h) := by
  unfold f_X5_tells_J41
  refine z_iadd rfl ?_
  refine z_iastoreL kd_77 rfl (fun h4 => ?_)
  refine z_aload_n rfl rfl ?_
  refine z_getRn (m := 77) rfl fl_X5_7 rfl kd_76 rfl ?_
  refine z_iload rfl rfl ?_
  refine z_iload_n rfl rfl ?_
  refine z_iadd rfl ?_
  refine z_iload rfl rfl ?_
  refine z_iastoreL kd_77 rfl (fun h5 => ?_)
  refine z_aload_n rfl rfl ?_
  refine z_getRn (m := 77) rfl fl_X5_7 rfl kd_76 rfl ?_
  refine z_iload rfl rfl ?_
  refine z_iconst rfl rfl ?_
  refine z_iadd rfl ?_
  refine z_iaload rfl kd_77 ?_
  exact z_ireturn rfl rfl
set_option maxRecDepth 20000 in
set_option maxHeartbeats 1000000 in
theorem t_X5_tells_J40 (x3 : Int) (x4 : Int) (x5 : Int) (s1 : Int) (s2 : Int) (h : Hp) : Z M_X5_tells 40 [some (vr 76), none, none, some (vi x3), some (vi x4), some (vi x5)] [vi s2, vi s1, vr 77] h (f_X5_tells_J40 x3 x4 x5 s1 s2 h) := by
  unfold f_X5_tells_J40
  refine z_iconst rfl rfl ?_
  refine Z.weak ?_ (t_X5_tells_J41  _ _ _ _ _ _  _)
  exact wkL_c (wkL_n (wkL_n (wkL_c (wkL_c (wkL_c (wkL_nil _))))))
set_option maxRecDepth 20000 in
set_option maxHeartbeats 1000000 in
theorem t_X5_tells (x1 : Int) (x2 : Int) (x3 : Int) (x4 : Int) (h : Hp) : Ct M_X5_tells [vr 76, vi x1, vi x2, vi x3, vi x4] h (f_X5_tells x1 x2 x3 x4 h) := by
  refine Ct.mk ok_X5_tells pl_X5_tells rfl rfl ?_
  show Z M_X5_tells 0 [some (vr 76), some (vi x1), some (vi x2), some (vi x3), some (vi x4), none] [] h (f_X5_tells x1 x2 x3 x4 h)
  unfold f_X5_tells
  refine z_aload_n rfl rfl ?_
  refine z_iload_n rfl rfl ?_
  refine z_iload_n rfl rfl ?_
  refine z_V2i ko5 mv_X5_104 kd_76 (t_X5_isClaim _ _ _) rfl rfl rfl rfl rfl (fun r1 h1 => ?_)
  refine z_if_eq rfl ?_ ?_
  · refine z_ldc rfl cst_X5_97 rfl ?_
    exact z_ireturn rfl rfl
  · refine z_iload_n rfl rfl ?_
    refine z_iload rfl rfl ?_
    refine z_S2i ms_X5_108 (t_X5_isDetail _ _ _) rfl rfl rfl rfl (fun r2 h2 => ?_)
    refine z_if_ne rfl ?_ ?_
    · refine z_iload_n rfl rfl ?_
      refine z_iload_n rfl rfl ?_
      refine z_S2i ms_X5_43 (t_X5_claimAt _ _ _) rfl rfl rfl rfl (fun r3 h3 => ?_)
      refine z_istore rfl rfl ?_
      refine z_aload_n rfl rfl ?_
      refine z_getRn (m := 77) rfl fl_X5_7 rfl kd_76 rfl ?_
      refine z_iload rfl rfl ?_
      refine z_iconst rfl rfl ?_
      refine z_iadd rfl ?_
      refine z_dup2 rfl rfl rfl ?_
      refine z_iaload rfl kd_77 ?_
      refine z_aload_n rfl rfl ?_
      refine z_getRn (m := 77) rfl fl_X5_7 rfl kd_76 rfl ?_
      refine z_iload rfl rfl ?_
      refine z_iload_n rfl rfl ?_
      refine z_iadd rfl ?_
      refine z_iaload rfl kd_77 ?_
      refine z_iconst rfl rfl ?_
      refine z_icmp_eq rfl ?_ ?_
      · refine Z.weak ?_ (t_X5_tells_J40  _ _ _ _ _  _)
        exact wkL_c (wkL_n (wkL_n (wkL_c (wkL_c (wkL_c (wkL_nil _))))))
      · refine z_aload_n rfl rfl ?_
        refine z_getRn (m := 77) rfl fl_X5_7 rfl kd_76 rfl ?_
        refine z_iload rfl rfl ?_
        refine z_iload_n rfl rfl ?_
        refine z_iadd rfl ?_
        refine z_iaload rfl kd_77 ?_
        refine z_iload rfl rfl ?_
        refine z_icmp_eq rfl ?_ ?_
        · refine Z.weak ?_ (t_X5_tells_J40  _ _ _ _ _  _)
          exact wkL_c (wkL_n (wkL_n (wkL_c (wkL_c (wkL_c (wkL_nil _))))))
        · refine z_iconst rfl rfl ?_
          refine z_goto rfl ?_
          refine Z.weak ?_ (t_X5_tells_J41  _ _ _ _ _ _  _)
          exact wkL_c (wkL_n (wkL_n (wkL_c (wkL_c (wkL_c (wkL_nil _))))))
    · refine z_ldc rfl cst_X5_97 rfl ?_
      exact z_ireturn rfl rfl
set_option maxRecDepth 20000 in
set_option maxHeartbeats 1000000 in
theorem t_X5_lapses_L2 (x1 : Int) : ∀ (n : Nat) (x2 : Int) (h : Hp), Z M_X5_lapses 2 [some (vr 76), some (vi x1), some (vi x2), none] [] h (f_X5_lapses_L2 x1 n x2 h) := by
  intro n
  induction n with
  | zero => intro x2 h; exact Z.nix
  | succ n ih =>
    intro x2 h
    rw [f_X5_lapses_L2_s]
    refine z_iload_n rfl rfl ?_
    refine z_aload_n rfl rfl ?_
    refine z_getRn (m := 77) rfl fl_X5_7 rfl kd_76 rfl ?_
    refine z_iload_n rfl rfl ?_
    refine z_bipush rfl rfl ?_
    refine z_iadd rfl ?_
    refine z_iaload rfl kd_77 ?_
    refine z_icmp_ge rfl ?_ ?_
    · exact z_return rfl rfl
    · refine z_aload_n rfl rfl ?_
      refine z_getRn (m := 77) rfl fl_X5_7 rfl kd_76 rfl ?_
      refine z_iload_n rfl rfl ?_
      refine z_iload_n rfl rfl ?_
      refine z_S2i ms_X5_43 (t_X5_claimAt _ _ _) rfl rfl rfl rfl (fun r1 h1 => ?_)
      refine z_iconst rfl rfl ?_
      refine z_iadd rfl ?_
      refine z_iaload rfl kd_77 ?_
      refine z_istore_nL rfl rfl (fun y2 => ?_)
      refine z_iload_n rfl rfl ?_
      refine z_aload_n rfl rfl ?_
      refine z_getRn (m := 77) rfl fl_X5_7 rfl kd_76 rfl ?_
      refine z_iload_n rfl rfl ?_
      refine z_bipush rfl rfl ?_
      refine z_iadd rfl ?_
      refine z_iaload rfl kd_77 ?_
      refine z_icmp_lt rfl ?_ ?_
      · refine z_iinc rfl rfl rfl ?_
        refine z_goto rfl ?_
        refine Z.weak ?_ (ih _ _)
        exact wkL_c (wkL_c (wkL_c (wkL_n (wkL_nil _))))
      · refine z_aload_n rfl rfl ?_
        refine z_iload_n rfl rfl ?_
        refine z_iconst rfl rfl ?_
        refine z_iload_n rfl rfl ?_
        refine z_iconst rfl rfl ?_
        refine z_V4v ko5 mv_X5_71 kd_76 (t_X5_writes _ _ _ _ _) rfl rfl rfl rfl rfl (fun _ h3 => ?_)
        refine z_aload_n rfl rfl ?_
        refine z_getRn (m := 77) rfl fl_X5_7 rfl kd_76 rfl ?_
        refine z_iload_n rfl rfl ?_
        refine z_bipush rfl rfl ?_
        refine z_iadd rfl ?_
        refine z_dup2 rfl rfl rfl ?_
        refine z_iaload rfl kd_77 ?_
        refine z_iconst rfl rfl ?_
        refine z_iadd rfl ?_
        refine z_iastoreL kd_77 rfl (fun h4 => ?_)
        refine z_aload_n rfl rfl ?_
        refine z_iload_n rfl rfl ?_
        refine z_iload_n rfl rfl ?_
        refine z_V2v ko5 mv_X5_78 kd_76 (t_X5_claimGoes _ _ _) rfl rfl rfl rfl rfl (fun _ h5 => ?_)
        refine z_goto rfl ?_
        refine z_goto rfl ?_
        refine Z.weak ?_ (ih _ _)
        exact wkL_c (wkL_c (wkL_c (wkL_n (wkL_nil _))))
set_option maxRecDepth 20000 in
set_option maxHeartbeats 1000000 in
theorem t_X5_lapses (x1 : Int) (h : Hp) : Ct M_X5_lapses [vr 76, vi x1] h (f_X5_lapses x1 h) := by
  refine Ct.mk ok_X5_lapses pl_X5_lapses rfl rfl ?_
  show Z M_X5_lapses 0 [some (vr 76), some (vi x1), none, none] [] h (f_X5_lapses x1 h)
  unfold f_X5_lapses
  refine z_iconst rfl rfl ?_
  refine z_istore_n rfl rfl ?_
  refine Z.weak ?_ (t_X5_lapses_L2  _     fu _ _)
  · exact wkL_c (wkL_c (wkL_c (wkL_n (wkL_nil _))))
set_option maxRecDepth 20000 in
set_option maxHeartbeats 1000000 in
theorem t_X5_sells_L2 (x1 : Int) : ∀ (n : Nat) (x2 : Int) (h : Hp), Z M_X5_sells 2 [some (vr 76), some (vi x1), some (vi x2), none] [] h (f_X5_sells_L2 x1 n x2 h) := by
  intro n
  induction n with
  | zero => intro x2 h; exact Z.nix
  | succ n ih =>
    intro x2 h
    rw [f_X5_sells_L2_s]
    refine z_iload_n rfl rfl ?_
    refine z_aload_n rfl rfl ?_
    refine z_getRn (m := 77) rfl fl_X5_7 rfl kd_76 rfl ?_
    refine z_iload_n rfl rfl ?_
    refine z_bipush rfl rfl ?_
    refine z_iadd rfl ?_
    refine z_iaload rfl kd_77 ?_
    refine z_icmp_ge rfl ?_ ?_
    · exact z_return rfl rfl
    · refine z_aload_n rfl rfl ?_
      refine z_getRn (m := 77) rfl fl_X5_7 rfl kd_76 rfl ?_
      refine z_iload_n rfl rfl ?_
      refine z_iload_n rfl rfl ?_
      refine z_S2i ms_X5_39 (t_X5_umbrellaAt _ _ _) rfl rfl rfl rfl (fun r1 h1 => ?_)
      refine z_iconst rfl rfl ?_
      refine z_iadd rfl ?_
      refine z_iaload rfl kd_77 ?_
      refine z_istore_nL rfl rfl (fun y2 => ?_)
      refine z_iload_n rfl rfl ?_
      refine z_aload_n rfl rfl ?_
      refine z_getRn (m := 77) rfl fl_X5_7 rfl kd_76 rfl ?_
      refine z_iload_n rfl rfl ?_
      refine z_bipush rfl rfl ?_
      refine z_iadd rfl ?_
      refine z_iaload rfl kd_77 ?_
      refine z_icmp_lt rfl ?_ ?_
      · refine z_iinc rfl rfl rfl ?_
        refine z_goto rfl ?_
        refine Z.weak ?_ (ih _ _)
        exact wkL_c (wkL_c (wkL_c (wkL_n (wkL_nil _))))
      · refine z_aload_n rfl rfl ?_
        refine z_iload_n rfl rfl ?_
        refine z_iconst rfl rfl ?_
        refine z_iload_n rfl rfl ?_
        refine z_aload_n rfl rfl ?_
        refine z_getRn (m := 77) rfl fl_X5_7 rfl kd_76 rfl ?_
        refine z_iload_n rfl rfl ?_
        refine z_bipush rfl rfl ?_
        refine z_iadd rfl ?_
        refine z_iaload rfl kd_77 ?_
        refine z_V4v ko5 mv_X5_71 kd_76 (t_X5_writes _ _ _ _ _) rfl rfl rfl rfl rfl (fun _ h3 => ?_)
        refine z_aload_n rfl rfl ?_
        refine z_getRn (m := 77) rfl fl_X5_7 rfl kd_76 rfl ?_
        refine z_iload_n rfl rfl ?_
        refine z_bipush rfl rfl ?_
        refine z_iadd rfl ?_
        refine z_dup2 rfl rfl rfl ?_
        refine z_iaload rfl kd_77 ?_
        refine z_iconst rfl rfl ?_
        refine z_iadd rfl ?_
        refine z_iastoreL kd_77 rfl (fun h4 => ?_)
        refine z_aload_n rfl rfl ?_
        refine z_iload_n rfl rfl ?_
        refine z_iload_n rfl rfl ?_
        refine z_V2v ko5 mv_X5_75 kd_76 (t_X5_umbrellaGoes _ _ _) rfl rfl rfl rfl rfl (fun _ h5 => ?_)
        refine z_goto rfl ?_
        refine z_goto rfl ?_
        refine Z.weak ?_ (ih _ _)
        exact wkL_c (wkL_c (wkL_c (wkL_n (wkL_nil _))))
set_option maxRecDepth 20000 in
set_option maxHeartbeats 1000000 in
theorem t_X5_sells (x1 : Int) (h : Hp) : Ct M_X5_sells [vr 76, vi x1] h (f_X5_sells x1 h) := by
  refine Ct.mk ok_X5_sells pl_X5_sells rfl rfl ?_
  show Z M_X5_sells 0 [some (vr 76), some (vi x1), none, none] [] h (f_X5_sells x1 h)
  unfold f_X5_sells
  refine z_iconst rfl rfl ?_
  refine z_istore_n rfl rfl ?_
  refine Z.weak ?_ (t_X5_sells_L2  _     fu _ _)
  · exact wkL_c (wkL_c (wkL_c (wkL_n (wkL_nil _))))
set_option maxRecDepth 20000 in
set_option maxHeartbeats 1000000 in
theorem t_X5_goBy_L24 (x1 : Int) (x2 : Int) (x3 : Int) (x4 : Int) (c53 : Hp → Option (Int × Hp)) (hc53 : ∀ (h : Hp), Z M_X5_goBy 53 [some (vr 76), some (vi x1), some (vi x2), some (vi x3), some (vi x4), none] [] h (c53  h)) : ∀ (n : Nat) (x5 : Int) (h : Hp), Z M_X5_goBy 24 [some (vr 76), some (vi x1), some (vi x2), some (vi x3), some (vi x4), some (vi x5)] [] h (f_X5_goBy_L24 x1 x2 x3 x4 c53 n x5 h) := by
  intro n
  induction n with
  | zero => intro x5 h; exact Z.nix
  | succ n ih =>
    intro x5 h
    rw [f_X5_goBy_L24_s]
    refine z_iload rfl rfl ?_
    refine z_bipush rfl rfl ?_
    refine z_icmp_ge rfl ?_ ?_
    · refine Z.weak ?_ (hc53 _)
      exact wkL_c (wkL_c (wkL_c (wkL_c (wkL_c (wkL_n (wkL_nil _))))))
    · refine z_aload_n rfl rfl ?_
      refine z_getRn (m := 77) rfl fl_X5_7 rfl kd_76 rfl ?_
      refine z_iload_n rfl rfl ?_
      refine z_iload rfl rfl ?_
      refine z_S2i ms_X5_39 (t_X5_umbrellaAt _ _ _) rfl rfl rfl rfl (fun r3 h3 => ?_)
      refine z_iconst rfl rfl ?_
      refine z_iadd rfl ?_
      refine z_dup2 rfl rfl rfl ?_
      refine z_iaload rfl kd_77 ?_
      refine z_iconst rfl rfl ?_
      refine z_iadd rfl ?_
      refine z_iastoreL kd_77 rfl (fun h4 => ?_)
      refine z_aload_n rfl rfl ?_
      refine z_getRn (m := 77) rfl fl_X5_7 rfl kd_76 rfl ?_
      refine z_iload_n rfl rfl ?_
      refine z_iload rfl rfl ?_
      refine z_S2i ms_X5_43 (t_X5_claimAt _ _ _) rfl rfl rfl rfl (fun r5 h5 => ?_)
      refine z_iconst rfl rfl ?_
      refine z_iadd rfl ?_
      refine z_dup2 rfl rfl rfl ?_
      refine z_iaload rfl kd_77 ?_
      refine z_iconst rfl rfl ?_
      refine z_iadd rfl ?_
      refine z_iastoreL kd_77 rfl (fun h6 => ?_)
      refine z_iinc rfl rfl rfl ?_
      refine z_goto rfl ?_
      refine Z.weak ?_ (ih _ _)
      exact wkL_c (wkL_c (wkL_c (wkL_c (wkL_c (wkL_c (wkL_nil _))))))
set_option maxRecDepth 20000 in
set_option maxHeartbeats 1000000 in
theorem t_X5_goBy_L9 (x1 : Int) (x2 : Int) (x3 : Int) (c61 : Hp → Option (Int × Hp)) (hc61 : ∀ (h : Hp), Z M_X5_goBy 61 [some (vr 76), some (vi x1), none, some (vi x3), none, none] [] h (c61  h)) : ∀ (n : Nat) (x4 : Int) (h : Hp), Z M_X5_goBy 9 [some (vr 76), some (vi x1), some (vi x2), some (vi x3), some (vi x4), none] [] h (f_X5_goBy_L9 x1 x2 x3 c61 n x4 h) := by
  intro n
  induction n with
  | zero => intro x4 h; exact Z.nix
  | succ n ih =>
    intro x4 h
    rw [f_X5_goBy_L9_s]
    refine z_iload rfl rfl ?_
    refine z_iload_n rfl rfl ?_
    refine z_icmp_ge rfl ?_ ?_
    · refine Z.weak ?_ (hc61 _)
      exact wkL_c (wkL_c (wkL_n (wkL_c (wkL_n (wkL_n (wkL_nil _))))))
    · refine z_aload_n rfl rfl ?_
      refine z_getRn (m := 77) rfl fl_X5_7 rfl kd_76 rfl ?_
      refine z_iload_n rfl rfl ?_
      refine z_iconst rfl rfl ?_
      refine z_iadd rfl ?_
      refine z_dup2 rfl rfl rfl ?_
      refine z_iaload rfl kd_77 ?_
      refine z_iconst rfl rfl ?_
      refine z_iadd rfl ?_
      refine z_iastoreL kd_77 rfl (fun h2 => ?_)
      refine z_iconst rfl rfl ?_
      refine z_istore rfl rfl ?_
      refine Z.weak ?_ (t_X5_goBy_L24  _ _ _ _  _  ?_  fu _ _)
      · exact wkL_c (wkL_c (wkL_c (wkL_c (wkL_c (wkL_c (wkL_nil _))))))
      · intro h7
        refine z_aload_n rfl rfl ?_
        refine z_iload_n rfl rfl ?_
        refine z_V1v ko5 mv_X5_81 kd_76 (t_X5_sells _ _) rfl rfl rfl rfl rfl (fun _ h8 => ?_)
        refine z_aload_n rfl rfl ?_
        refine z_iload_n rfl rfl ?_
        refine z_V1v ko5 mv_X5_84 kd_76 (t_X5_lapses _ _) rfl rfl rfl rfl rfl (fun _ h9 => ?_)
        refine z_iinc rfl rfl rfl ?_
        refine z_goto rfl ?_
        refine Z.weak ?_ (ih _ _)
        exact wkL_c (wkL_c (wkL_c (wkL_c (wkL_c (wkL_n (wkL_nil _))))))
set_option maxRecDepth 20000 in
set_option maxHeartbeats 1000000 in
theorem t_X5_goBy (x1 : Int) (x2 : Int) (h : Hp) : Ct M_X5_goBy [vr 76, vi x1, vi x2] h (f_X5_goBy x1 x2 h) := by
  refine Ct.mk ok_X5_goBy pl_X5_goBy rfl rfl ?_
  show Z M_X5_goBy 0 [some (vr 76), some (vi x1), some (vi x2), none, none, none] [] h (f_X5_goBy x1 x2 h)
  unfold f_X5_goBy
  refine z_aload_n rfl rfl ?_
  refine z_getRn (m := 77) rfl fl_X5_7 rfl kd_76 rfl ?_
  refine z_iload_n rfl rfl ?_
  refine z_bipush rfl rfl ?_
  refine z_iadd rfl ?_
  refine z_iaload rfl kd_77 ?_
  refine z_istore_nL rfl rfl (fun y1 => ?_)
  refine z_iconst rfl rfl ?_
  refine z_istore rfl rfl ?_
  refine Z.weak ?_ (t_X5_goBy_L9  _ _ _  _  ?_  fu _ _)
  · exact wkL_c (wkL_c (wkL_c (wkL_c (wkL_c (wkL_n (wkL_nil _))))))
  · intro h10
    refine z_aload_n rfl rfl ?_
    refine z_getRn (m := 77) rfl fl_X5_7 rfl kd_76 rfl ?_
    refine z_iload_n rfl rfl ?_
    refine z_bipush rfl rfl ?_
    refine z_iadd rfl ?_
    refine z_iaload rfl kd_77 ?_
    refine z_iload_n rfl rfl ?_
    refine z_isub rfl ?_
    exact z_ireturn rfl rfl
set_option maxRecDepth 20000 in
set_option maxHeartbeats 1000000 in
theorem t_X5_weeksIn (x1 : Int) (x2 : Int) (h : Hp) : Ct M_X5_weeksIn [vr 76, vi x1, vi x2] h (f_X5_weeksIn x1 x2 h) := by
  refine Ct.mk ok_X5_weeksIn pl_X5_weeksIn rfl rfl ?_
  show Z M_X5_weeksIn 0 [some (vr 76), some (vi x1), some (vi x2)] [] h (f_X5_weeksIn x1 x2 h)
  unfold f_X5_weeksIn
  refine z_iload_n rfl rfl ?_
  refine z_iconst rfl rfl ?_
  refine z_bipush rfl rfl ?_
  refine z_S3i ms_X5_90 (t_X5_in _ _ _ _) rfl rfl rfl rfl (fun r1 h1 => ?_)
  refine z_if_ne rfl ?_ ?_
  · refine z_aload_n rfl rfl ?_
    refine z_getRn (m := 77) rfl fl_X5_7 rfl kd_76 rfl ?_
    refine z_iload_n rfl rfl ?_
    refine z_iconst rfl rfl ?_
    refine z_iadd rfl ?_
    refine z_iaload rfl kd_77 ?_
    refine z_iload_n rfl rfl ?_
    refine z_iadd rfl ?_
    refine z_sipush rfl rfl ?_
    refine z_icmp_le rfl ?_ ?_
    · refine z_aload_n rfl rfl ?_
      refine z_iload_n rfl rfl ?_
      refine z_iload_n rfl rfl ?_
      refine z_V2i ko5 mv_X5_111 kd_76 (t_X5_goBy _ _ _) rfl rfl rfl rfl rfl (fun r2 h2 => ?_)
      exact z_ireturn rfl rfl
    · refine z_ldc rfl cst_X5_98 rfl ?_
      refine z_goto rfl ?_
      exact z_ireturn rfl rfl
  · refine z_ldc rfl cst_X5_97 rfl ?_
    exact z_ireturn rfl rfl
set_option maxRecDepth 20000 in
set_option maxHeartbeats 1000000 in
theorem t_X5_does (x1 : Int) (h : Hp) : Ct M_X5_does [vr 76, vi x1] h (f_X5_does x1 h) := by
  refine Ct.mk ok_X5_does pl_X5_does rfl rfl ?_
  show Z M_X5_does 0 [some (vr 76), some (vi x1)] [] h (f_X5_does x1 h)
  unfold f_X5_does
  refine z_aload_n rfl rfl ?_
  refine z_getI rfl fl_X5_193 rfl kd_76 ?_
  refine Z.ite (fun e2 => ?_) (fun e2 => ?_)
  · refine z_look (tg := 23) rfl rfl (o := 74) (by rw [e2]; rfl) rfl ?_
    refine z_aload_n rfl rfl ?_
    refine z_iload_n rfl rfl ?_
    refine z_aload_n rfl rfl ?_
    refine z_getRn (m := 83) rfl fl_X5_28 rfl kd_76 rfl ?_
    refine z_iconst rfl rfl ?_
    refine z_iaload rfl kd_83 ?_
    refine z_aload_n rfl rfl ?_
    refine z_getRn (m := 83) rfl fl_X5_28 rfl kd_76 rfl ?_
    refine z_iconst rfl rfl ?_
    refine z_iaload rfl kd_83 ?_
    refine z_aload_n rfl rfl ?_
    refine z_getRn (m := 83) rfl fl_X5_28 rfl kd_76 rfl ?_
    refine z_iconst rfl rfl ?_
    refine z_iaload rfl kd_83 ?_
    refine z_aload_n rfl rfl ?_
    refine z_getRn (m := 83) rfl fl_X5_28 rfl kd_76 rfl ?_
    refine z_iconst rfl rfl ?_
    refine z_iaload rfl kd_83 ?_
    refine z_V5i ko5 mv_X5_128 kd_76 (t_X5_claims _ _ _ _ _ _) rfl rfl rfl rfl rfl (fun r1 h1 => ?_)
    exact z_ireturn rfl rfl
  refine Z.ite (fun e4 => ?_) (fun e4 => ?_)
  · refine z_look (tg := 3) rfl rfl (o := 44) (by rw [e4]; rfl) rfl ?_
    refine z_aload_n rfl rfl ?_
    refine z_iload_n rfl rfl ?_
    refine z_aload_n rfl rfl ?_
    refine z_getRn (m := 83) rfl fl_X5_28 rfl kd_76 rfl ?_
    refine z_iconst rfl rfl ?_
    refine z_iaload rfl kd_83 ?_
    refine z_aload_n rfl rfl ?_
    refine z_getRn (m := 83) rfl fl_X5_28 rfl kd_76 rfl ?_
    refine z_iconst rfl rfl ?_
    refine z_iaload rfl kd_83 ?_
    refine z_aload_n rfl rfl ?_
    refine z_getRn (m := 83) rfl fl_X5_28 rfl kd_76 rfl ?_
    refine z_iconst rfl rfl ?_
    refine z_iaload rfl kd_83 ?_
    refine z_aload_n rfl rfl ?_
    refine z_getRn (m := 83) rfl fl_X5_28 rfl kd_76 rfl ?_
    refine z_iconst rfl rfl ?_
    refine z_iaload rfl kd_83 ?_
    refine z_V5i ko5 mv_X5_121 kd_76 (t_X5_finds _ _ _ _ _ _) rfl rfl rfl rfl rfl (fun r3 h3 => ?_)
    exact z_ireturn rfl rfl
  refine Z.ite (fun e6 => ?_) (fun e6 => ?_)
  · refine z_look (tg := 43) rfl rfl (o := 104) (by rw [e6]; rfl) rfl ?_
    refine z_aload_n rfl rfl ?_
    refine z_iload_n rfl rfl ?_
    refine z_aload_n rfl rfl ?_
    refine z_getRn (m := 83) rfl fl_X5_28 rfl kd_76 rfl ?_
    refine z_iconst rfl rfl ?_
    refine z_iaload rfl kd_83 ?_
    refine z_aload_n rfl rfl ?_
    refine z_getRn (m := 83) rfl fl_X5_28 rfl kd_76 rfl ?_
    refine z_iconst rfl rfl ?_
    refine z_iaload rfl kd_83 ?_
    refine z_aload_n rfl rfl ?_
    refine z_getRn (m := 83) rfl fl_X5_28 rfl kd_76 rfl ?_
    refine z_iconst rfl rfl ?_
    refine z_iaload rfl kd_83 ?_
    refine z_V4i ko5 mv_X5_131 kd_76 (t_X5_tells _ _ _ _ _) rfl rfl rfl rfl rfl (fun r5 h5 => ?_)
    exact z_ireturn rfl rfl
  refine Z.ite (fun e8 => ?_) (fun e8 => ?_)
  · refine z_look (tg := 59) rfl rfl (o := 128) (by rw [e8]; rfl) rfl ?_
    refine z_aload_n rfl rfl ?_
    refine z_iload_n rfl rfl ?_
    refine z_aload_n rfl rfl ?_
    refine z_getRn (m := 83) rfl fl_X5_28 rfl kd_76 rfl ?_
    refine z_iconst rfl rfl ?_
    refine z_iaload rfl kd_83 ?_
    refine z_V2i ko5 mv_X5_135 kd_76 (t_X5_weeksIn _ _ _) rfl rfl rfl rfl rfl (fun r7 h7 => ?_)
    exact z_ireturn rfl rfl
  refine z_look (tg := 67) rfl rfl (o := 140) (by simp only [Op.lookupswitch.offset]; rw [if_neg (fun q => e2 q.symm)]; rw [if_neg (fun q => e4 q.symm)]; rw [if_neg (fun q => e6 q.symm)]; rw [if_neg (fun q => e8 q.symm)]) rfl ?_
  refine z_aload_n rfl rfl ?_
  refine z_iload_n rfl rfl ?_
  refine z_V1i ko5 mv_X5_138 kd_76 (t_X5_handsOut _ _) rfl rfl rfl rfl rfl (fun r9 h9 => ?_)
  exact z_ireturn rfl rfl
set_option maxRecDepth 20000 in
set_option maxHeartbeats 1000000 in
theorem t_X5_drop (x1 : Int) (h : Hp) : Ct M_X5_drop [vr 76, vi x1] h (f_X5_drop x1 h) := by
  refine Ct.mk ok_X5_drop pl_X5_drop rfl rfl ?_
  show Z M_X5_drop 0 [some (vr 76), some (vi x1)] [] h (f_X5_drop x1 h)
  unfold f_X5_drop
  refine z_aload_n rfl rfl ?_
  refine z_iconst rfl rfl ?_
  refine z_iload_n rfl rfl ?_
  refine z_V2i ko5 mv_X5_104 kd_76 (t_X5_isClaim _ _ _) rfl rfl rfl rfl rfl (fun r1 h1 => ?_)
  refine z_if_ne rfl ?_ ?_
  · refine z_aload_n rfl rfl ?_
    refine z_V0v ko5 mv_X5_114 kd_76 (t_X5_records  _) rfl rfl rfl rfl rfl (fun _ h2 => ?_)
    refine z_aload_n rfl rfl ?_
    refine z_iconst rfl rfl ?_
    refine z_iload_n rfl rfl ?_
    refine z_V2v ko5 mv_X5_78 kd_76 (t_X5_claimGoes _ _ _) rfl rfl rfl rfl rfl (fun _ h3 => ?_)
    refine z_aload_n rfl rfl ?_
    refine z_getRn (m := 77) rfl fl_X5_7 rfl kd_76 rfl ?_
    refine z_bipush rfl rfl ?_
    refine z_dup2 rfl rfl rfl ?_
    refine z_iaload rfl kd_77 ?_
    refine z_iconst rfl rfl ?_
    refine z_iadd rfl ?_
    refine z_iastoreL kd_77 rfl (fun h4 => ?_)
    refine z_aload_n rfl rfl ?_
    refine z_getRn (m := 77) rfl fl_X5_7 rfl kd_76 rfl ?_
    refine z_bipush rfl rfl ?_
    refine z_iaload rfl kd_77 ?_
    exact z_ireturn rfl rfl
  · refine z_ldc rfl cst_X5_97 rfl ?_
    exact z_ireturn rfl rfl
set_option maxRecDepth 20000 in
set_option maxHeartbeats 1000000 in
theorem t_X5_isDigit  (h : Hp) : Ct M_X5_isDigit [vr 76] h (f_X5_isDigit  h) := by
  refine Ct.mk ok_X5_isDigit pl_X5_isDigit rfl rfl ?_
  show Z M_X5_isDigit 0 [some (vr 76)] [] h (f_X5_isDigit  h)
  unfold f_X5_isDigit
  refine z_aload_n rfl rfl ?_
  refine z_getI rfl fl_X5_174 rfl kd_76 ?_
  refine z_aload_n rfl rfl ?_
  refine z_getI rfl fl_X5_171 rfl kd_76 ?_
  refine z_icmp_ge rfl ?_ ?_
  · refine z_iconst rfl rfl ?_
    exact z_zret0 rfl rfl
  · refine z_aload_n rfl rfl ?_
    refine z_getRn (m := 78) rfl fl_X5_13 rfl kd_76 rfl ?_
    refine z_aload_n rfl rfl ?_
    refine z_getI rfl fl_X5_174 rfl kd_76 ?_
    refine z_iaload rfl kd_78 ?_
    refine z_bipush rfl rfl ?_
    refine z_bipush rfl rfl ?_
    refine z_S3i ms_X5_90 (t_X5_in _ _ _ _) rfl rfl rfl rfl (fun r1 h1 => ?_)
    refine z_if_eq rfl ?_ ?_
    · refine z_iconst rfl rfl ?_
      exact z_zret0 rfl rfl
    · refine z_iconst rfl rfl ?_
      refine z_goto rfl ?_
      exact z_zret1 rfl rfl
set_option maxRecDepth 20000 in
set_option maxHeartbeats 1000000 in
theorem t_X5_readsNumber_L8 (x1 : Int) (x2 : Int) : ∀ (n : Nat)  (h : Hp), Z M_X5_readsNumber 8 [some (vr 76), some (vi x1), some (vi x2)] [] h (f_X5_readsNumber_L8 x1 x2 n  h) := by
  intro n
  induction n with
  | zero => intro  h; exact Z.nix
  | succ n ih =>
    intro  h
    rw [f_X5_readsNumber_L8_s]
    refine z_aload_n rfl rfl ?_
    refine z_V0i ko5 mv_X5_182 kd_76 (t_X5_isDigit  _) rfl rfl rfl rfl rfl (fun r3 h3 => ?_)
    refine z_if_eq rfl ?_ ?_
    · refine z_aload_n rfl rfl ?_
      refine z_getI rfl fl_X5_174 rfl kd_76 ?_
      refine z_iload_n rfl rfl ?_
      refine z_icmp_le rfl ?_ ?_
      · refine z_iconst rfl rfl ?_
        exact z_zret0 rfl rfl
      · refine z_iconst rfl rfl ?_
        refine z_goto rfl ?_
        exact z_zret1 rfl rfl
    · refine z_aload_n rfl rfl ?_
      refine z_getI rfl fl_X5_174 rfl kd_76 ?_
      refine z_iload_n rfl rfl ?_
      refine z_iconst rfl rfl ?_
      refine z_iadd rfl ?_
      refine z_icmp_ge rfl ?_ ?_
      · refine z_aload_n rfl rfl ?_
        refine z_getI rfl fl_X5_174 rfl kd_76 ?_
        refine z_iload_n rfl rfl ?_
        refine z_icmp_le rfl ?_ ?_
        · refine z_iconst rfl rfl ?_
          exact z_zret0 rfl rfl
        · refine z_iconst rfl rfl ?_
          refine z_goto rfl ?_
          exact z_zret1 rfl rfl
      · refine z_aload_n rfl rfl ?_
        refine z_getRn (m := 83) rfl fl_X5_28 rfl kd_76 rfl ?_
        refine z_iload_n rfl rfl ?_
        refine z_bipush rfl rfl ?_
        refine z_aload_n rfl rfl ?_
        refine z_getRn (m := 83) rfl fl_X5_28 rfl kd_76 rfl ?_
        refine z_iload_n rfl rfl ?_
        refine z_iaload rfl kd_83 ?_
        refine z_imul rfl ?_
        refine z_aload_n rfl rfl ?_
        refine z_getRn (m := 78) rfl fl_X5_13 rfl kd_76 rfl ?_
        refine z_aload_n rfl rfl ?_
        refine z_getI rfl fl_X5_174 rfl kd_76 ?_
        refine z_iaload rfl kd_78 ?_
        refine z_iadd rfl ?_
        refine z_bipush rfl rfl ?_
        refine z_isub rfl ?_
        refine z_iastoreL kd_83 rfl (fun h4 => ?_)
        refine z_aload_n rfl rfl ?_
        refine z_dup rfl rfl ?_
        refine z_getI rfl fl_X5_174 rfl kd_76 ?_
        refine z_iconst rfl rfl ?_
        refine z_iadd rfl ?_
        refine z_putL fi_X5_174 rfl kd_76 rfl (fun h5 => ?_)
        refine z_goto rfl ?_
        refine Z.weak ?_ (ih _)
        exact wkL_c (wkL_c (wkL_c (wkL_nil _)))
set_option maxRecDepth 20000 in
set_option maxHeartbeats 1000000 in
theorem t_X5_readsNumber (x1 : Int) (h : Hp) : Ct M_X5_readsNumber [vr 76, vi x1] h (f_X5_readsNumber x1 h) := by
  refine Ct.mk ok_X5_readsNumber pl_X5_readsNumber rfl rfl ?_
  show Z M_X5_readsNumber 0 [some (vr 76), some (vi x1), none] [] h (f_X5_readsNumber x1 h)
  unfold f_X5_readsNumber
  refine z_aload_n rfl rfl ?_
  refine z_getRn (m := 83) rfl fl_X5_28 rfl kd_76 rfl ?_
  refine z_iload_n rfl rfl ?_
  refine z_iconst rfl rfl ?_
  refine z_iastoreL kd_83 rfl (fun h1 => ?_)
  refine z_aload_n rfl rfl ?_
  refine z_getI rfl fl_X5_174 rfl kd_76 ?_
  refine z_istore_nL rfl rfl (fun y2 => ?_)
  refine Z.weak ?_ (t_X5_readsNumber_L8  _ _     fu _)
  · exact wkL_c (wkL_c (wkL_c (wkL_nil _)))
set_option maxRecDepth 20000 in
set_option maxHeartbeats 1000000 in
theorem t_X5_takes_J15 (s0 : Int) (h : Hp) : Z M_X5_takes 15 [some (vr 76), none, none] [vi s0] h (f_X5_takes_J15 s0 h) := by
  unfold f_X5_takes_J15
  refine z_istore_n rfl rfl ?_
  refine z_aload_n rfl rfl ?_
  refine z_dup rfl rfl ?_
  refine z_getI rfl fl_X5_174 rfl kd_76 ?_
  refine z_iload_n rfl rfl ?_
  refine z_if_eq rfl ?_ ?_
  · refine z_iconst rfl rfl ?_
    refine z_iadd rfl ?_
    refine z_putL fi_X5_174 rfl kd_76 rfl (fun h1 => ?_)
    refine z_iload_n rfl rfl ?_
    exact z_zret rfl rfl
  · refine z_iconst rfl rfl ?_
    refine z_goto rfl ?_
    refine z_iadd rfl ?_
    refine z_putL fi_X5_174 rfl kd_76 rfl (fun h2 => ?_)
    refine z_iload_n rfl rfl ?_
    exact z_zret rfl rfl
set_option maxRecDepth 20000 in
set_option maxHeartbeats 1000000 in
theorem t_X5_takes_J14  (h : Hp) : Z M_X5_takes 14 [some (vr 76), none, none] [] h (f_X5_takes_J14  h) := by
  unfold f_X5_takes_J14
  refine z_iconst rfl rfl ?_
  refine Z.weak ?_ (t_X5_takes_J15  _  _)
  exact wkL_c (wkL_n (wkL_n (wkL_nil _)))
set_option maxRecDepth 20000 in
set_option maxHeartbeats 1000000 in
theorem t_X5_takes (x1 : Int) (h : Hp) : Ct M_X5_takes [vr 76, vi x1] h (f_X5_takes x1 h) := by
  refine Ct.mk ok_X5_takes pl_X5_takes rfl rfl ?_
  show Z M_X5_takes 0 [some (vr 76), some (vi x1), none] [] h (f_X5_takes x1 h)
  unfold f_X5_takes
  refine z_aload_n rfl rfl ?_
  refine z_getI rfl fl_X5_174 rfl kd_76 ?_
  refine z_aload_n rfl rfl ?_
  refine z_getI rfl fl_X5_171 rfl kd_76 ?_
  refine z_icmp_ge rfl ?_ ?_
  · refine Z.weak ?_ (t_X5_takes_J14   _)
    exact wkL_c (wkL_n (wkL_n (wkL_nil _)))
  · refine z_aload_n rfl rfl ?_
    refine z_getRn (m := 78) rfl fl_X5_13 rfl kd_76 rfl ?_
    refine z_aload_n rfl rfl ?_
    refine z_getI rfl fl_X5_174 rfl kd_76 ?_
    refine z_iaload rfl kd_78 ?_
    refine z_iload_n rfl rfl ?_
    refine z_icmp_ne rfl ?_ ?_
    · refine Z.weak ?_ (t_X5_takes_J14   _)
      exact wkL_c (wkL_n (wkL_n (wkL_nil _)))
    · refine z_iconst rfl rfl ?_
      refine z_goto rfl ?_
      refine Z.weak ?_ (t_X5_takes_J15  _  _)
      exact wkL_c (wkL_n (wkL_n (wkL_nil _)))
set_option maxRecDepth 20000 in
set_option maxHeartbeats 1000000 in
theorem t_X5_readsValue (x1 : Int) (x2 : Int) (h : Hp) : Ct M_X5_readsValue [vr 76, vi x1, vi x2] h (f_X5_readsValue x1 x2 h) := by
  refine Ct.mk ok_X5_readsValue pl_X5_readsValue rfl rfl ?_
  show Z M_X5_readsValue 0 [some (vr 76), some (vi x1), some (vi x2)] [] h (f_X5_readsValue x1 x2 h)
  unfold f_X5_readsValue
  refine z_iload_n rfl rfl ?_
  refine z_if_ne rfl ?_ ?_
  · refine z_aload_n rfl rfl ?_
    refine z_iload_n rfl rfl ?_
    refine z_V1i ko5 mv_X5_186 kd_76 (t_X5_readsNumber _ _) rfl rfl rfl rfl rfl (fun r1 h1 => ?_)
    exact z_zret rfl rfl
  · refine z_aload_n rfl rfl ?_
    refine z_bipush rfl rfl ?_
    refine z_V1i ko5 mv_X5_179 kd_76 (t_X5_takes _ _) rfl rfl rfl rfl rfl (fun r2 h2 => ?_)
    refine z_if_eq rfl ?_ ?_
    · refine z_aload_n rfl rfl ?_
      refine z_iload_n rfl rfl ?_
      refine z_V1i ko5 mv_X5_186 kd_76 (t_X5_readsNumber _ _) rfl rfl rfl rfl rfl (fun r3 h3 => ?_)
      exact z_zret rfl rfl
    · refine z_aload_n rfl rfl ?_
      refine z_getRn (m := 83) rfl fl_X5_28 rfl kd_76 rfl ?_
      refine z_iload_n rfl rfl ?_
      refine z_iconst rfl rfl ?_
      refine z_iastoreL kd_83 rfl (fun h4 => ?_)
      refine z_iconst rfl rfl ?_
      exact z_zret1 rfl rfl
set_option maxRecDepth 20000 in
set_option maxHeartbeats 1000000 in
theorem t_X5_readsRow_L7 (x1 : Int) (x2 : Int) : ∀ (n : Nat) (x3 : Int) (x4 : Int) (h : Hp), Z M_X5_readsRow 7 [some (vr 76), some (vi x1), some (vi x2), some (vi x3), some (vi x4)] [] h (f_X5_readsRow_L7 x1 x2 n x3 x4 h) := by
  intro n
  induction n with
  | zero => intro x3 x4 h; exact Z.nix
  | succ n ih =>
    intro x3 x4 h
    rw [f_X5_readsRow_L7_s]
    refine z_iload rfl rfl ?_
    refine z_iload_n rfl rfl ?_
    refine z_icmp_ge rfl ?_ ?_
    · refine z_iload_n rfl rfl ?_
      exact z_zret rfl rfl
    · refine z_iload_n rfl rfl ?_
      refine z_if_eq rfl ?_ ?_
      · refine z_iload_n rfl rfl ?_
        exact z_zret rfl rfl
      · refine z_aload_n rfl rfl ?_
        refine z_bipush rfl rfl ?_
        refine z_V1i ko5 mv_X5_179 kd_76 (t_X5_takes _ _) rfl rfl rfl rfl rfl (fun r2 h2 => ?_)
        refine z_if_eq rfl ?_ ?_
        · refine z_iconst rfl rfl ?_
          refine z_istore_n rfl rfl ?_
          refine z_iinc rfl rfl rfl ?_
          refine z_goto rfl ?_
          refine Z.weak ?_ (ih _ _ _)
          exact wkL_c (wkL_c (wkL_c (wkL_c (wkL_c (wkL_nil _)))))
        · refine z_aload_n rfl rfl ?_
          refine z_iload rfl rfl ?_
          refine z_iload_n rfl rfl ?_
          refine z_V2i ko5 mv_X5_189 kd_76 (t_X5_readsValue _ _ _) rfl rfl rfl rfl rfl (fun r3 h3 => ?_)
          refine z_if_eq rfl ?_ ?_
          · refine z_iconst rfl rfl ?_
            refine z_istore_n rfl rfl ?_
            refine z_iinc rfl rfl rfl ?_
            refine z_goto rfl ?_
            refine Z.weak ?_ (ih _ _ _)
            exact wkL_c (wkL_c (wkL_c (wkL_c (wkL_c (wkL_nil _)))))
          · refine z_iconst rfl rfl ?_
            refine z_goto rfl ?_
            refine z_istore_n rfl rfl ?_
            refine z_iinc rfl rfl rfl ?_
            refine z_goto rfl ?_
            refine Z.weak ?_ (ih _ _ _)
            exact wkL_c (wkL_c (wkL_c (wkL_c (wkL_c (wkL_nil _)))))
set_option maxRecDepth 20000 in
set_option maxHeartbeats 1000000 in
theorem t_X5_readsRow (x1 : Int) (x2 : Int) (h : Hp) : Ct M_X5_readsRow [vr 76, vi x1, vi x2] h (f_X5_readsRow x1 x2 h) := by
  refine Ct.mk ok_X5_readsRow pl_X5_readsRow rfl rfl ?_
  show Z M_X5_readsRow 0 [some (vr 76), some (vi x1), some (vi x2), none, none] [] h (f_X5_readsRow x1 x2 h)
  unfold f_X5_readsRow
  refine z_aload_n rfl rfl ?_
  refine z_iconst rfl rfl ?_
  refine z_iload_n rfl rfl ?_
  refine z_V2i ko5 mv_X5_189 kd_76 (t_X5_readsValue _ _ _) rfl rfl rfl rfl rfl (fun r1 h1 => ?_)
  refine z_istore_n rfl rfl ?_
  refine z_iconst rfl rfl ?_
  refine z_istore rfl rfl ?_
  refine Z.weak ?_ (t_X5_readsRow_L7  _ _     fu _ _ _)
  · exact wkL_c (wkL_c (wkL_c (wkL_c (wkL_c (wkL_nil _)))))
set_option maxRecDepth 20000 in
set_option maxHeartbeats 1000000 in
theorem t_X5_takesWord_L4 (x1 : Int64) : ∀ (n : Nat) (x3 : Int) (x4 : Int) (h : Hp), Z M_X5_takesWord 4 [some (vr 76), some (vx (.long x1)), none, some (vi x3), some (vi x4), none] [] h (f_X5_takesWord_L4 x1 n x3 x4 h) := by
  intro n
  induction n with
  | zero => intro x3 x4 h; exact Z.nix
  | succ n ih =>
    intro x3 x4 h
    rw [f_X5_takesWord_L4_s]
    refine z_iload rfl rfl ?_
    refine z_if_lt rfl ?_ ?_
    · refine z_iload_n rfl rfl ?_
      exact z_zret rfl rfl
    · refine z_iload_n rfl rfl ?_
      refine z_if_eq rfl ?_ ?_
      · refine z_iload_n rfl rfl ?_
        exact z_zret rfl rfl
      · refine z_lload_n rfl rfl ?_
        refine z_iload rfl rfl ?_
        refine z_lshr rfl ?_
        refine z_ldc2 cst_X5_177 rfl ?_
        refine z_land rfl ?_
        refine z_l2i rfl ?_
        refine z_istoreL rfl rfl (fun y1 => ?_)
        refine z_iload rfl rfl ?_
        refine z_if_eq rfl ?_ ?_
        · refine z_iconst rfl rfl ?_
          refine z_goto rfl ?_
          refine z_istore_n rfl rfl ?_
          refine z_iinc rfl rfl rfl ?_
          refine z_goto rfl ?_
          refine Z.weak ?_ (ih _ _ _)
          exact wkL_c (wkL_c (wkL_n (wkL_c (wkL_c (wkL_n (wkL_nil _))))))
        · refine z_aload_n rfl rfl ?_
          refine z_iload rfl rfl ?_
          refine z_V1i ko5 mv_X5_179 kd_76 (t_X5_takes _ _) rfl rfl rfl rfl rfl (fun r2 h2 => ?_)
          refine z_if_eq rfl ?_ ?_
          · refine z_iconst rfl rfl ?_
            refine z_istore_n rfl rfl ?_
            refine z_iinc rfl rfl rfl ?_
            refine z_goto rfl ?_
            refine Z.weak ?_ (ih _ _ _)
            exact wkL_c (wkL_c (wkL_n (wkL_c (wkL_c (wkL_n (wkL_nil _))))))
          · refine z_iconst rfl rfl ?_
            refine z_goto rfl ?_
            refine z_istore_n rfl rfl ?_
            refine z_iinc rfl rfl rfl ?_
            refine z_goto rfl ?_
            refine Z.weak ?_ (ih _ _ _)
            exact wkL_c (wkL_c (wkL_n (wkL_c (wkL_c (wkL_n (wkL_nil _))))))
set_option maxRecDepth 20000 in
set_option maxHeartbeats 1000000 in
theorem t_X5_takesWord (x1 : Int64) (h : Hp) : Ct M_X5_takesWord [vr 76, vx (.long x1)] h (f_X5_takesWord x1 h) := by
  refine Ct.mk ok_X5_takesWord pl_X5_takesWord rfl rfl ?_
  show Z M_X5_takesWord 0 [some (vr 76), some (vx (.long x1)), none, none, none, none] [] h (f_X5_takesWord x1 h)
  unfold f_X5_takesWord
  refine z_iconst rfl rfl ?_
  refine z_istore_n rfl rfl ?_
  refine z_bipush rfl rfl ?_
  refine z_istore rfl rfl ?_
  refine Z.weak ?_ (t_X5_takesWord_L4  _     fu _ _ _)
  · exact wkL_c (wkL_c (wkL_n (wkL_c (wkL_c (wkL_n (wkL_nil _))))))
