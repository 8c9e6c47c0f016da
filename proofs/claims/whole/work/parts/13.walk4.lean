/-! printed by wip/gen/gen.py: the bytecode does what the functions say -/
set_option maxRecDepth 20000 in
set_option maxHeartbeats 1000000 in
theorem t_X5_in (x0 : Int) (x1 : Int) (x2 : Int) (h : Hp) : Ct M_X5_in [vi x0, vi x1, vi x2] h (f_X5_in x0 x1 x2 h) := by
  refine Ct.mk ok_X5_in pl_X5_in rfl rfl ?_
  show Z M_X5_in 0 [some (vi x0), some (vi x1), some (vi x2)] [] h (f_X5_in x0 x1 x2 h)
  unfold f_X5_in
  refine z_iload_n rfl rfl ?_
  refine z_iload_n rfl rfl ?_
  refine z_icmp_lt rfl ?_ ?_
  · refine z_iconst rfl rfl ?_
    exact z_zret0 rfl rfl
  · refine z_iload_n rfl rfl ?_
    refine z_iload_n rfl rfl ?_
    refine z_icmp_gt rfl ?_ ?_
    · refine z_iconst rfl rfl ?_
      exact z_zret0 rfl rfl
    · refine z_iconst rfl rfl ?_
      refine z_goto rfl ?_
      exact z_zret1 rfl rfl
set_option maxRecDepth 20000 in
set_option maxHeartbeats 1000000 in
theorem t_X5_areValues (x0 : Int) (x1 : Int) (x2 : Int) (x3 : Int) (x4 : Int) (h : Hp) : Ct M_X5_areValues [vi x0, vi x1, vi x2, vi x3, vi x4] h (f_X5_areValues x0 x1 x2 x3 x4 h) := by
  refine Ct.mk ok_X5_areValues pl_X5_areValues rfl rfl ?_
  show Z M_X5_areValues 0 [some (vi x0), some (vi x1), some (vi x2), some (vi x3), some (vi x4)] [] h (f_X5_areValues x0 x1 x2 x3 x4 h)
  unfold f_X5_areValues
  refine z_iload_n rfl rfl ?_
  refine z_iload_n rfl rfl ?_
  refine z_bipush rfl rfl ?_
  refine z_S3i ms_X5_90 (t_X5_in _ _ _ _) rfl rfl rfl rfl (fun r1 h1 => ?_)
  refine z_if_eq rfl ?_ ?_
  · refine z_iconst rfl rfl ?_
    exact z_zret0 rfl rfl
  · refine z_iload_n rfl rfl ?_
    refine z_iload_n rfl rfl ?_
    refine z_bipush rfl rfl ?_
    refine z_S3i ms_X5_90 (t_X5_in _ _ _ _) rfl rfl rfl rfl (fun r2 h2 => ?_)
    refine z_if_eq rfl ?_ ?_
    · refine z_iconst rfl rfl ?_
      exact z_zret0 rfl rfl
    · refine z_iload_n rfl rfl ?_
      refine z_iload_n rfl rfl ?_
      refine z_bipush rfl rfl ?_
      refine z_S3i ms_X5_90 (t_X5_in _ _ _ _) rfl rfl rfl rfl (fun r3 h3 => ?_)
      refine z_if_eq rfl ?_ ?_
      · refine z_iconst rfl rfl ?_
        exact z_zret0 rfl rfl
      · refine z_iload rfl rfl ?_
        refine z_iload_n rfl rfl ?_
        refine z_bipush rfl rfl ?_
        refine z_S3i ms_X5_90 (t_X5_in _ _ _ _) rfl rfl rfl rfl (fun r4 h4 => ?_)
        refine z_if_eq rfl ?_ ?_
        · refine z_iconst rfl rfl ?_
          exact z_zret0 rfl rfl
        · refine z_iconst rfl rfl ?_
          refine z_goto rfl ?_
          exact z_zret1 rfl rfl
set_option maxRecDepth 20000 in
set_option maxHeartbeats 1000000 in
theorem t_X5_asks_L13 (x1 : Int) (x2 : Int) (x4 : Int) (c59 : Int → Hp → Option (Int × Hp)) (hc59 : ∀ (y5 : Int) (h : Hp), Z M_X5_asks 59 [some (vr 76), some (vi x1), some (vi x2), none, some (vi x4), some (vi y5), none, none] [] h (c59 y5 h)) : ∀ (n : Nat) (x5 : Int) (x6 : Int) (h : Hp), Z M_X5_asks 13 [some (vr 76), some (vi x1), some (vi x2), none, some (vi x4), some (vi x5), some (vi x6), none] [] h (f_X5_asks_L13 x1 x2 x4 c59 n x5 x6 h) := by
  intro n
  induction n with
  | zero => intro x5 x6 h; exact Z.nix
  | succ n ih =>
    intro x5 x6 h
    rw [f_X5_asks_L13_s]
    refine z_iload rfl rfl ?_
    refine z_bipush rfl rfl ?_
    refine z_icmp_ge rfl ?_ ?_
    · refine Z.weak ?_ (hc59 _ _)
      exact wkL_c (wkL_c (wkL_c (wkL_n (wkL_c (wkL_c (wkL_n (wkL_n (wkL_nil _))))))))
    · refine z_aload_n rfl rfl ?_
      refine z_getRn (m := 81) rfl fl_X5_22 rfl kd_76 rfl ?_
      refine z_bipush rfl rfl ?_
      refine z_iload rfl rfl ?_
      refine z_imul rfl ?_
      refine z_iload_n rfl rfl ?_
      refine z_iadd rfl ?_
      refine z_iaload rfl kd_81 ?_
      refine z_aload_n rfl rfl ?_
      refine z_getRn (m := 81) rfl fl_X5_22 rfl kd_76 rfl ?_
      refine z_bipush rfl rfl ?_
      refine z_iload rfl rfl ?_
      refine z_imul rfl ?_
      refine z_iload_n rfl rfl ?_
      refine z_iadd rfl ?_
      refine z_iaload rfl kd_81 ?_
      refine z_isub rfl ?_
      refine z_istoreL rfl rfl (fun y1 => ?_)
      refine z_iload rfl rfl ?_
      refine z_aload_n rfl rfl ?_
      refine z_getRn (m := 81) rfl fl_X5_22 rfl kd_76 rfl ?_
      refine z_bipush rfl rfl ?_
      refine z_iload rfl rfl ?_
      refine z_imul rfl ?_
      refine z_iload_n rfl rfl ?_
      refine z_iadd rfl ?_
      refine z_iaload rfl kd_81 ?_
      refine z_iconst rfl rfl ?_
      refine z_icmp_eq rfl ?_ ?_
      · refine z_iconst rfl rfl ?_
        refine z_iadd rfl ?_
        refine z_istoreL rfl rfl (fun y2 => ?_)
        refine z_iinc rfl rfl rfl ?_
        refine z_goto rfl ?_
        refine Z.weak ?_ (ih _ _ _)
        exact wkL_c (wkL_c (wkL_c (wkL_n (wkL_c (wkL_c (wkL_c (wkL_n (wkL_nil _))))))))
      · refine z_iload rfl rfl ?_
        refine z_if_gt rfl ?_ ?_
        · refine z_iconst rfl rfl ?_
          refine z_goto rfl ?_
          refine z_iadd rfl ?_
          refine z_istoreL rfl rfl (fun y3 => ?_)
          refine z_iinc rfl rfl rfl ?_
          refine z_goto rfl ?_
          refine Z.weak ?_ (ih _ _ _)
          exact wkL_c (wkL_c (wkL_c (wkL_n (wkL_c (wkL_c (wkL_c (wkL_n (wkL_nil _))))))))
        · refine z_iload rfl rfl ?_
          refine z_if_ne rfl ?_ ?_
          · refine z_iconst rfl rfl ?_
            refine z_iadd rfl ?_
            refine z_istoreL rfl rfl (fun y4 => ?_)
            refine z_iinc rfl rfl rfl ?_
            refine z_goto rfl ?_
            refine Z.weak ?_ (ih _ _ _)
            exact wkL_c (wkL_c (wkL_c (wkL_n (wkL_c (wkL_c (wkL_c (wkL_n (wkL_nil _))))))))
          · refine z_iload rfl rfl ?_
            refine z_iload rfl rfl ?_
            refine z_icmp_ge rfl ?_ ?_
            · refine z_iconst rfl rfl ?_
              refine z_iadd rfl ?_
              refine z_istoreL rfl rfl (fun y5 => ?_)
              refine z_iinc rfl rfl rfl ?_
              refine z_goto rfl ?_
              refine Z.weak ?_ (ih _ _ _)
              exact wkL_c (wkL_c (wkL_c (wkL_n (wkL_c (wkL_c (wkL_c (wkL_n (wkL_nil _))))))))
            · refine z_iconst rfl rfl ?_
              refine z_goto rfl ?_
              refine z_iadd rfl ?_
              refine z_istoreL rfl rfl (fun y6 => ?_)
              refine z_iinc rfl rfl rfl ?_
              refine z_goto rfl ?_
              refine Z.weak ?_ (ih _ _ _)
              exact wkL_c (wkL_c (wkL_c (wkL_n (wkL_c (wkL_c (wkL_c (wkL_n (wkL_nil _))))))))
set_option maxRecDepth 20000 in
set_option maxHeartbeats 1000000 in
theorem t_X5_asks_L6 (x1 : Int) (c81 : Int → Hp → Option (Int × Hp)) (hc81 : ∀ (y2 : Int) (h : Hp), Z M_X5_asks 81 [some (vr 76), some (vi x1), some (vi y2), none, none, none, none, none] [] h (c81 y2 h)) : ∀ (n : Nat) (x2 : Int) (x4 : Int) (h : Hp), Z M_X5_asks 6 [some (vr 76), some (vi x1), some (vi x2), none, some (vi x4), none, none, none] [] h (f_X5_asks_L6 x1 c81 n x2 x4 h) := by
  intro n
  induction n with
  | zero => intro x2 x4 h; exact Z.nix
  | succ n ih =>
    intro x2 x4 h
    rw [f_X5_asks_L6_s]
    refine z_iload rfl rfl ?_
    refine z_bipush rfl rfl ?_
    refine z_icmp_ge rfl ?_ ?_
    · refine Z.weak ?_ (hc81 _ _)
      exact wkL_c (wkL_c (wkL_c (wkL_n (wkL_n (wkL_n (wkL_n (wkL_n (wkL_nil _))))))))
    · refine z_iconst rfl rfl ?_
      refine z_istore rfl rfl ?_
      refine z_iconst rfl rfl ?_
      refine z_istore rfl rfl ?_
      refine Z.weak ?_ (t_X5_asks_L13  _ _ _  _  ?_  fu _ _ _)
      · exact wkL_c (wkL_c (wkL_c (wkL_n (wkL_c (wkL_c (wkL_c (wkL_n (wkL_nil _))))))))
      · intro y7 h8
        refine z_aload_n rfl rfl ?_
        refine z_getRn (m := 81) rfl fl_X5_22 rfl kd_76 rfl ?_
        refine z_bipush rfl rfl ?_
        refine z_iload rfl rfl ?_
        refine z_imul rfl ?_
        refine z_iload_n rfl rfl ?_
        refine z_iadd rfl ?_
        refine z_iaload rfl kd_81 ?_
        refine z_iconst rfl rfl ?_
        refine z_icmp_eq rfl ?_ ?_
        · refine z_iload_n rfl rfl ?_
          refine z_istore_n rfl rfl ?_
          refine z_iinc rfl rfl rfl ?_
          refine z_goto rfl ?_
          refine Z.weak ?_ (ih _ _ _)
          exact wkL_c (wkL_c (wkL_c (wkL_n (wkL_c (wkL_n (wkL_n (wkL_n (wkL_nil _))))))))
        · refine z_iload rfl rfl ?_
          refine z_aload_n rfl rfl ?_
          refine z_getRn (m := 82) rfl fl_X5_25 rfl kd_76 rfl ?_
          refine z_iload_n rfl rfl ?_
          refine z_iaload rfl kd_82 ?_
          refine z_icmp_ne rfl ?_ ?_
          · refine z_iload_n rfl rfl ?_
            refine z_istore_n rfl rfl ?_
            refine z_iinc rfl rfl rfl ?_
            refine z_goto rfl ?_
            refine Z.weak ?_ (ih _ _ _)
            exact wkL_c (wkL_c (wkL_c (wkL_n (wkL_c (wkL_n (wkL_n (wkL_n (wkL_nil _))))))))
          · refine z_iload rfl rfl ?_
            refine z_goto rfl ?_
            refine z_istore_n rfl rfl ?_
            refine z_iinc rfl rfl rfl ?_
            refine z_goto rfl ?_
            refine Z.weak ?_ (ih _ _ _)
            exact wkL_c (wkL_c (wkL_c (wkL_n (wkL_c (wkL_n (wkL_n (wkL_n (wkL_nil _))))))))
set_option maxRecDepth 20000 in
set_option maxHeartbeats 1000000 in
theorem t_X5_asks (x1 : Int) (h : Hp) : Ct M_X5_asks [vr 76, vi x1] h (f_X5_asks x1 h) := by
  refine Ct.mk ok_X5_asks pl_X5_asks rfl rfl ?_
  show Z M_X5_asks 0 [some (vr 76), some (vi x1), none, none, none, none, none, none] [] h (f_X5_asks x1 h)
  unfold f_X5_asks
  refine z_iconst rfl rfl ?_
  refine z_istore_n rfl rfl ?_
  refine z_iconst rfl rfl ?_
  refine z_istore_n rfl rfl ?_
  refine z_iconst rfl rfl ?_
  refine z_istore rfl rfl ?_
  refine Z.weak ?_ (t_X5_asks_L6  _  _  ?_  fu _ _ _)
  · exact wkL_c (wkL_c (wkL_c (wkL_n (wkL_c (wkL_n (wkL_n (wkL_n (wkL_nil _))))))))
  · intro y9 h10
    refine z_aload_n rfl rfl ?_
    refine z_getRn (m := 82) rfl fl_X5_25 rfl kd_76 rfl ?_
    refine z_iload_n rfl rfl ?_
    refine z_dup2 rfl rfl rfl ?_
    refine z_iaload rfl kd_82 ?_
    refine z_iconst rfl rfl ?_
    refine z_iadd rfl ?_
    refine z_iastoreL kd_82 rfl (fun h11 => ?_)
    refine z_iload_n rfl rfl ?_
    exact z_ireturn rfl rfl
set_option maxRecDepth 20000 in
set_option maxHeartbeats 1000000 in
theorem t_X5_asksOn_J34 (c4 : Int → Hp → Option (Int × Hp)) (x1 : Int) (x2 : Int) (x3 : Int) (x4 : Int) (s0 : Int) (hc4 : ∀ (y2 : Int) (h : Hp), Z M_X5_asksOn 4 [some (vr 76), some (vi x1), some (vi y2), none, none, none] [] h (c4 y2 h)) (h : Hp) : Z M_X5_asksOn 34 [some (vr 76), some (vi x1), some (vi x2), some (vi x3), some (vi x4), none] [vi s0] h (f_X5_asksOn_J34 c4 x1 x2 x3 x4 s0 h) := by
  unfold f_X5_asksOn_J34
  refine z_istore rfl rfl ?_
  refine z_iload_n rfl rfl ?_
  refine z_iconst rfl rfl ?_
  refine z_icmp_eq rfl ?_ ?_
  · refine z_aload_n rfl rfl ?_
    refine z_getRn (m := 79) rfl fl_X5_16 rfl kd_76 rfl ?_
    refine z_iload_n rfl rfl ?_
    refine z_iload_n rfl rfl ?_
    refine z_iastoreL kd_79 rfl (fun h4 => ?_)
    refine z_iload_n rfl rfl ?_
    exact z_ireturn rfl rfl
  · refine z_iload rfl rfl ?_
    refine z_iload rfl rfl ?_
    refine z_icmp_gt rfl ?_ ?_
    · refine z_aload_n rfl rfl ?_
      refine z_getRn (m := 79) rfl fl_X5_16 rfl kd_76 rfl ?_
      refine z_iload_n rfl rfl ?_
      refine z_iload_n rfl rfl ?_
      refine z_iastoreL kd_79 rfl (fun h5 => ?_)
      refine z_iload_n rfl rfl ?_
      exact z_ireturn rfl rfl
    · refine z_iload rfl rfl ?_
      refine z_iload rfl rfl ?_
      refine z_icmp_ne rfl ?_ ?_
      · refine z_aload_n rfl rfl ?_
        refine z_iload_n rfl rfl ?_
        refine z_V1i ko5 mv_X5_64 kd_76 (t_X5_asks _ _) rfl rfl rfl rfl rfl (fun r6 h6 => ?_)
        refine z_istore_n rfl rfl ?_
        refine z_goto rfl ?_
        refine Z.weak ?_ (hc4 _ _)
        exact wkL_c (wkL_c (wkL_c (wkL_n (wkL_n (wkL_n (wkL_nil _))))))
      · refine z_iload_n rfl rfl ?_
        refine z_iload_n rfl rfl ?_
        refine z_icmp_ge rfl ?_ ?_
        · refine z_aload_n rfl rfl ?_
          refine z_iload_n rfl rfl ?_
          refine z_V1i ko5 mv_X5_64 kd_76 (t_X5_asks _ _) rfl rfl rfl rfl rfl (fun r7 h7 => ?_)
          refine z_istore_n rfl rfl ?_
          refine z_goto rfl ?_
          refine Z.weak ?_ (hc4 _ _)
          exact wkL_c (wkL_c (wkL_c (wkL_n (wkL_n (wkL_n (wkL_nil _))))))
        · refine z_aload_n rfl rfl ?_
          refine z_getRn (m := 79) rfl fl_X5_16 rfl kd_76 rfl ?_
          refine z_iload_n rfl rfl ?_
          refine z_iload_n rfl rfl ?_
          refine z_iastoreL kd_79 rfl (fun h8 => ?_)
          refine z_iload_n rfl rfl ?_
          exact z_ireturn rfl rfl
set_option maxRecDepth 20000 in
set_option maxHeartbeats 1000000 in
theorem t_X5_asksOn_L4 (x1 : Int) : ∀ (n : Nat) (x2 : Int) (h : Hp), Z M_X5_asksOn 4 [some (vr 76), some (vi x1), some (vi x2), none, none, none] [] h (f_X5_asksOn_L4 x1 n x2 h) := by
  intro n
  induction n with
  | zero => intro x2 h; exact Z.nix
  | succ n ih =>
    intro x2 h
    rw [f_X5_asksOn_L4_s]
    refine z_iload_n rfl rfl ?_
    refine z_iconst rfl rfl ?_
    refine z_icmp_eq rfl ?_ ?_
    · refine z_iconst rfl rfl ?_
      exact z_ireturn rfl rfl
    · refine z_aload_n rfl rfl ?_
      refine z_getRn (m := 79) rfl fl_X5_16 rfl kd_76 rfl ?_
      refine z_iload_n rfl rfl ?_
      refine z_iaload rfl kd_79 ?_
      refine z_istore_nL rfl rfl (fun y2 => ?_)
      refine z_aload_n rfl rfl ?_
      refine z_getRn (m := 81) rfl fl_X5_22 rfl kd_76 rfl ?_
      refine z_bipush rfl rfl ?_
      refine z_iload_n rfl rfl ?_
      refine z_imul rfl ?_
      refine z_iload_n rfl rfl ?_
      refine z_iadd rfl ?_
      refine z_iaload rfl kd_81 ?_
      refine z_istoreL rfl rfl (fun y3 => ?_)
      refine z_iload_n rfl rfl ?_
      refine z_iconst rfl rfl ?_
      refine z_icmp_ne rfl ?_ ?_
      · refine z_aload_n rfl rfl ?_
        refine z_getRn (m := 81) rfl fl_X5_22 rfl kd_76 rfl ?_
        refine z_bipush rfl rfl ?_
        refine z_iload_n rfl rfl ?_
        refine z_imul rfl ?_
        refine z_iload_n rfl rfl ?_
        refine z_iadd rfl ?_
        refine z_iaload rfl kd_81 ?_
        refine Z.weak ?_ (t_X5_asksOn_J34  _ _ _ _ _ _ ih _)
        exact wkL_c (wkL_c (wkL_c (wkL_c (wkL_c (wkL_n (wkL_nil _))))))
      · refine z_iconst rfl rfl ?_
        refine z_goto rfl ?_
        refine Z.weak ?_ (t_X5_asksOn_J34  _ _ _ _ _ _ ih _)
        exact wkL_c (wkL_c (wkL_c (wkL_c (wkL_c (wkL_n (wkL_nil _))))))
set_option maxRecDepth 20000 in
set_option maxHeartbeats 1000000 in
theorem t_X5_asksOn (x1 : Int) (h : Hp) : Ct M_X5_asksOn [vr 76, vi x1] h (f_X5_asksOn x1 h) := by
  refine Ct.mk ok_X5_asksOn pl_X5_asksOn rfl rfl ?_
  show Z M_X5_asksOn 0 [some (vr 76), some (vi x1), none, none, none, none] [] h (f_X5_asksOn x1 h)
  unfold f_X5_asksOn
  refine z_aload_n rfl rfl ?_
  refine z_iload_n rfl rfl ?_
  refine z_V1i ko5 mv_X5_64 kd_76 (t_X5_asks _ _) rfl rfl rfl rfl rfl (fun r1 h1 => ?_)
  refine z_istore_n rfl rfl ?_
  refine Z.weak ?_ (t_X5_asksOn_L4  _     fu _ _)
  · exact wkL_c (wkL_c (wkL_c (wkL_n (wkL_n (wkL_n (wkL_nil _))))))
set_option maxRecDepth 20000 in
set_option maxHeartbeats 1000000 in
theorem t_X5_book (x1 : Int) (x2 : Int) (h : Hp) : Ct M_X5_book [vr 76, vi x1, vi x2] h (f_X5_book x1 x2 h) := by
  refine Ct.mk ok_X5_book pl_X5_book rfl rfl ?_
  show Z M_X5_book 0 [some (vr 76), some (vi x1), some (vi x2)] [] h (f_X5_book x1 x2 h)
  unfold f_X5_book
  refine z_iload_n rfl rfl ?_
  refine z_if_lt rfl ?_ ?_
  · refine z_ldc rfl cst_X5_97 rfl ?_
    exact z_ireturn rfl rfl
  · refine z_iload_n rfl rfl ?_
    refine z_iconst rfl rfl ?_
    refine z_iconst rfl rfl ?_
    refine z_S3i ms_X5_90 (t_X5_in _ _ _ _) rfl rfl rfl rfl (fun r1 h1 => ?_)
    refine z_if_ne rfl ?_ ?_
    · refine z_iload_n rfl rfl ?_
      refine z_aload_n rfl rfl ?_
      refine z_getRn (m := 77) rfl fl_X5_7 rfl kd_76 rfl ?_
      refine z_bipush rfl rfl ?_
      refine z_iaload rfl kd_77 ?_
      refine z_icmp_ge rfl ?_ ?_
      · refine z_ldc rfl cst_X5_144 rfl ?_
        exact z_ireturn rfl rfl
      · refine z_aload_n rfl rfl ?_
        refine z_getRn (m := 77) rfl fl_X5_7 rfl kd_76 rfl ?_
        refine z_sipush rfl rfl ?_
        refine z_iconst rfl rfl ?_
        refine z_aload_n rfl rfl ?_
        refine z_getRn (m := 77) rfl fl_X5_7 rfl kd_76 rfl ?_
        refine z_bipush rfl rfl ?_
        refine z_iaload rfl kd_77 ?_
        refine z_iconst rfl rfl ?_
        refine z_isub rfl ?_
        refine z_iload_n rfl rfl ?_
        refine z_isub rfl ?_
        refine z_imul rfl ?_
        refine z_iadd rfl ?_
        refine z_iload_n rfl rfl ?_
        refine z_iadd rfl ?_
        refine z_iaload rfl kd_77 ?_
        refine z_goto rfl ?_
        exact z_ireturn rfl rfl
    · refine z_ldc rfl cst_X5_97 rfl ?_
      exact z_ireturn rfl rfl
set_option maxRecDepth 20000 in
set_option maxHeartbeats 1000000 in
theorem t_X5_claimAt (x0 : Int) (x1 : Int) (h : Hp) : Ct M_X5_claimAt [vi x0, vi x1] h (f_X5_claimAt x0 x1 h) := by
  refine Ct.mk ok_X5_claimAt pl_X5_claimAt rfl rfl ?_
  show Z M_X5_claimAt 0 [some (vi x0), some (vi x1)] [] h (f_X5_claimAt x0 x1 h)
  unfold f_X5_claimAt
  refine z_iload_n rfl rfl ?_
  refine z_bipush rfl rfl ?_
  refine z_iadd rfl ?_
  refine z_bipush rfl rfl ?_
  refine z_iload_n rfl rfl ?_
  refine z_imul rfl ?_
  refine z_iadd rfl ?_
  exact z_ireturn rfl rfl
set_option maxRecDepth 20000 in
set_option maxHeartbeats 1000000 in
theorem t_X5_umbrellaAt (x0 : Int) (x1 : Int) (h : Hp) : Ct M_X5_umbrellaAt [vi x0, vi x1] h (f_X5_umbrellaAt x0 x1 h) := by
  refine Ct.mk ok_X5_umbrellaAt pl_X5_umbrellaAt rfl rfl ?_
  show Z M_X5_umbrellaAt 0 [some (vi x0), some (vi x1)] [] h (f_X5_umbrellaAt x0 x1 h)
  unfold f_X5_umbrellaAt
  refine z_iload_n rfl rfl ?_
  refine z_bipush rfl rfl ?_
  refine z_iadd rfl ?_
  refine z_iconst rfl rfl ?_
  refine z_iload_n rfl rfl ?_
  refine z_imul rfl ?_
  refine z_iadd rfl ?_
  exact z_ireturn rfl rfl
set_option maxRecDepth 20000 in
set_option maxHeartbeats 1000000 in
theorem t_X5_many_L4 (x1 : Int) (x2 : Int) (x3 : Int) : ∀ (n : Nat) (x4 : Int) (x5 : Int) (h : Hp), Z M_X5_many 4 [some (vr 76), some (vi x1), some (vi x2), some (vi x3), some (vi x4), some (vi x5)] [] h (f_X5_many_L4 x1 x2 x3 n x4 x5 h) := by
  intro n
  induction n with
  | zero => intro x4 x5 h; exact Z.nix
  | succ n ih =>
    intro x4 x5 h
    rw [f_X5_many_L4_s]
    refine z_iload rfl rfl ?_
    refine z_aload_n rfl rfl ?_
    refine z_getRn (m := 77) rfl fl_X5_7 rfl kd_76 rfl ?_
    refine z_iload_n rfl rfl ?_
    refine z_bipush rfl rfl ?_
    refine z_iadd rfl ?_
    refine z_iaload rfl kd_77 ?_
    refine z_icmp_ge rfl ?_ ?_
    · refine z_iload rfl rfl ?_
      exact z_ireturn rfl rfl
    · refine z_iload rfl rfl ?_
      refine z_aload_n rfl rfl ?_
      refine z_getRn (m := 77) rfl fl_X5_7 rfl kd_76 rfl ?_
      refine z_iload_n rfl rfl ?_
      refine z_iload rfl rfl ?_
      refine z_S2i ms_X5_39 (t_X5_umbrellaAt _ _ _) rfl rfl rfl rfl (fun r1 h1 => ?_)
      refine z_iload_n rfl rfl ?_
      refine z_iadd rfl ?_
      refine z_iaload rfl kd_77 ?_
      refine z_iload_n rfl rfl ?_
      refine z_icmp_ne rfl ?_ ?_
      · refine z_iconst rfl rfl ?_
        refine z_iadd rfl ?_
        refine z_istoreL rfl rfl (fun y2 => ?_)
        refine z_iinc rfl rfl rfl ?_
        refine z_goto rfl ?_
        refine Z.weak ?_ (ih _ _ _)
        exact wkL_c (wkL_c (wkL_c (wkL_c (wkL_c (wkL_c (wkL_nil _))))))
      · refine z_iconst rfl rfl ?_
        refine z_goto rfl ?_
        refine z_iadd rfl ?_
        refine z_istoreL rfl rfl (fun y3 => ?_)
        refine z_iinc rfl rfl rfl ?_
        refine z_goto rfl ?_
        refine Z.weak ?_ (ih _ _ _)
        exact wkL_c (wkL_c (wkL_c (wkL_c (wkL_c (wkL_c (wkL_nil _))))))
set_option maxRecDepth 20000 in
set_option maxHeartbeats 1000000 in
theorem t_X5_many (x1 : Int) (x2 : Int) (x3 : Int) (h : Hp) : Ct M_X5_many [vr 76, vi x1, vi x2, vi x3] h (f_X5_many x1 x2 x3 h) := by
  refine Ct.mk ok_X5_many pl_X5_many rfl rfl ?_
  show Z M_X5_many 0 [some (vr 76), some (vi x1), some (vi x2), some (vi x3), none, none] [] h (f_X5_many x1 x2 x3 h)
  unfold f_X5_many
  refine z_iconst rfl rfl ?_
  refine z_istore rfl rfl ?_
  refine z_iconst rfl rfl ?_
  refine z_istore rfl rfl ?_
  refine Z.weak ?_ (t_X5_many_L4  _ _ _     fu _ _ _)
  · exact wkL_c (wkL_c (wkL_c (wkL_c (wkL_c (wkL_c (wkL_nil _))))))
set_option maxRecDepth 20000 in
set_option maxHeartbeats 1000000 in
theorem t_X5_misses_L4 (x1 : Int) (x2 : Int) (x3 : Int) : ∀ (n : Nat) (x4 : Int) (x5 : Int) (h : Hp), Z M_X5_misses 4 [some (vr 76), some (vi x1), some (vi x2), some (vi x3), some (vi x4), some (vi x5), none] [] h (f_X5_misses_L4 x1 x2 x3 n x4 x5 h) := by
  intro n
  induction n with
  | zero => intro x4 x5 h; exact Z.nix
  | succ n ih =>
    intro x4 x5 h
    rw [f_X5_misses_L4_s]
    refine z_iload rfl rfl ?_
    refine z_iconst rfl rfl ?_
    refine z_icmp_ge rfl ?_ ?_
    · refine z_iload rfl rfl ?_
      exact z_ireturn rfl rfl
    · refine z_aload_n rfl rfl ?_
      refine z_getRn (m := 77) rfl fl_X5_7 rfl kd_76 rfl ?_
      refine z_iload_n rfl rfl ?_
      refine z_iload_n rfl rfl ?_
      refine z_S2i ms_X5_43 (t_X5_claimAt _ _ _) rfl rfl rfl rfl (fun r1 h1 => ?_)
      refine z_iload rfl rfl ?_
      refine z_iadd rfl ?_
      refine z_iaload rfl kd_77 ?_
      refine z_istoreL rfl rfl (fun y2 => ?_)
      refine z_iload rfl rfl ?_
      refine z_iload rfl rfl ?_
      refine z_iconst rfl rfl ?_
      refine z_icmp_eq rfl ?_ ?_
      · refine z_iconst rfl rfl ?_
        refine z_iadd rfl ?_
        refine z_istoreL rfl rfl (fun y3 => ?_)
        refine z_iinc rfl rfl rfl ?_
        refine z_goto rfl ?_
        refine Z.weak ?_ (ih _ _ _)
        exact wkL_c (wkL_c (wkL_c (wkL_c (wkL_c (wkL_c (wkL_n (wkL_nil _)))))))
      · refine z_iload rfl rfl ?_
        refine z_aload_n rfl rfl ?_
        refine z_getRn (m := 77) rfl fl_X5_7 rfl kd_76 rfl ?_
        refine z_iload_n rfl rfl ?_
        refine z_iload_n rfl rfl ?_
        refine z_S2i ms_X5_39 (t_X5_umbrellaAt _ _ _) rfl rfl rfl rfl (fun r4 h4 => ?_)
        refine z_iload rfl rfl ?_
        refine z_iadd rfl ?_
        refine z_iaload rfl kd_77 ?_
        refine z_icmp_eq rfl ?_ ?_
        · refine z_iconst rfl rfl ?_
          refine z_iadd rfl ?_
          refine z_istoreL rfl rfl (fun y5 => ?_)
          refine z_iinc rfl rfl rfl ?_
          refine z_goto rfl ?_
          refine Z.weak ?_ (ih _ _ _)
          exact wkL_c (wkL_c (wkL_c (wkL_c (wkL_c (wkL_c (wkL_n (wkL_nil _)))))))
        · refine z_iconst rfl rfl ?_
          refine z_goto rfl ?_
          refine z_iadd rfl ?_
          refine z_istoreL rfl rfl (fun y6 => ?_)
          refine z_iinc rfl rfl rfl ?_
          refine z_goto rfl ?_
          refine Z.weak ?_ (ih _ _ _)
          exact wkL_c (wkL_c (wkL_c (wkL_c (wkL_c (wkL_c (wkL_n (wkL_nil _)))))))
set_option maxRecDepth 20000 in
set_option maxHeartbeats 1000000 in
theorem t_X5_misses (x1 : Int) (x2 : Int) (x3 : Int) (h : Hp) : Ct M_X5_misses [vr 76, vi x1, vi x2, vi x3] h (f_X5_misses x1 x2 x3 h) := by
  refine Ct.mk ok_X5_misses pl_X5_misses rfl rfl ?_
  show Z M_X5_misses 0 [some (vr 76), some (vi x1), some (vi x2), some (vi x3), none, none, none] [] h (f_X5_misses x1 x2 x3 h)
  unfold f_X5_misses
  refine z_iconst rfl rfl ?_
  refine z_istore rfl rfl ?_
  refine z_iconst rfl rfl ?_
  refine z_istore rfl rfl ?_
  refine Z.weak ?_ (t_X5_misses_L4  _ _ _     fu _ _ _)
  · exact wkL_c (wkL_c (wkL_c (wkL_c (wkL_c (wkL_c (wkL_n (wkL_nil _)))))))
set_option maxRecDepth 20000 in
set_option maxHeartbeats 1000000 in
theorem t_X5_pointsOf_L32 (x1 : Int) (x2 : Int) (x3 : Int) : ∀ (n : Nat) (x4 : Int) (x5 : Int) (h : Hp), Z M_X5_pointsOf 32 [some (vr 76), some (vi x1), some (vi x2), some (vi x3), some (vi x4), some (vi x5), none] [] h (f_X5_pointsOf_L32 x1 x2 x3 n x4 x5 h) := by
  intro n
  induction n with
  | zero => intro x4 x5 h; exact Z.nix
  | succ n ih =>
    intro x4 x5 h
    rw [f_X5_pointsOf_L32_s]
    refine z_iload rfl rfl ?_
    refine z_iconst rfl rfl ?_
    refine z_icmp_ge rfl ?_ ?_
    · refine z_iload rfl rfl ?_
      exact z_ireturn rfl rfl
    · refine z_aload_n rfl rfl ?_
      refine z_getRn (m := 77) rfl fl_X5_7 rfl kd_76 rfl ?_
      refine z_iload_n rfl rfl ?_
      refine z_iload_n rfl rfl ?_
      refine z_S2i ms_X5_39 (t_X5_umbrellaAt _ _ _) rfl rfl rfl rfl (fun r4 h4 => ?_)
      refine z_iload rfl rfl ?_
      refine z_iadd rfl ?_
      refine z_iaload rfl kd_77 ?_
      refine z_istoreL rfl rfl (fun y5 => ?_)
      refine z_iload rfl rfl ?_
      refine z_aload_n rfl rfl ?_
      refine z_getRn (m := 77) rfl fl_X5_7 rfl kd_76 rfl ?_
      refine z_iload_n rfl rfl ?_
      refine z_iload_n rfl rfl ?_
      refine z_S2i ms_X5_43 (t_X5_claimAt _ _ _) rfl rfl rfl rfl (fun r6 h6 => ?_)
      refine z_iload rfl rfl ?_
      refine z_iadd rfl ?_
      refine z_iaload rfl kd_77 ?_
      refine z_iload rfl rfl ?_
      refine z_icmp_ne rfl ?_ ?_
      · refine z_iconst rfl rfl ?_
        refine z_iadd rfl ?_
        refine z_istoreL rfl rfl (fun y7 => ?_)
        refine z_iinc rfl rfl rfl ?_
        refine z_goto rfl ?_
        refine Z.weak ?_ (ih _ _ _)
        exact wkL_c (wkL_c (wkL_c (wkL_c (wkL_c (wkL_c (wkL_n (wkL_nil _)))))))
      · refine z_bipush rfl rfl ?_
        refine z_aload_n rfl rfl ?_
        refine z_iload_n rfl rfl ?_
        refine z_iload rfl rfl ?_
        refine z_iload rfl rfl ?_
        refine z_V3i ko5 mv_X5_50 kd_76 (t_X5_many _ _ _ _) rfl rfl rfl rfl rfl (fun r8 h8 => ?_)
        refine z_isub rfl ?_
        refine z_goto rfl ?_
        refine z_iadd rfl ?_
        refine z_istoreL rfl rfl (fun y9 => ?_)
        refine z_iinc rfl rfl rfl ?_
        refine z_goto rfl ?_
        refine Z.weak ?_ (ih _ _ _)
        exact wkL_c (wkL_c (wkL_c (wkL_c (wkL_c (wkL_c (wkL_n (wkL_nil _)))))))
set_option maxRecDepth 20000 in
set_option maxHeartbeats 1000000 in
theorem t_X5_pointsOf (x1 : Int) (x2 : Int) (x3 : Int) (h : Hp) : Ct M_X5_pointsOf [vr 76, vi x1, vi x2, vi x3] h (f_X5_pointsOf x1 x2 x3 h) := by
  refine Ct.mk ok_X5_pointsOf pl_X5_pointsOf rfl rfl ?_
  show Z M_X5_pointsOf 0 [some (vr 76), some (vi x1), some (vi x2), some (vi x3), none, none, none] [] h (f_X5_pointsOf x1 x2 x3 h)
  unfold f_X5_pointsOf
  refine z_aload_n rfl rfl ?_
  refine z_getRn (m := 77) rfl fl_X5_7 rfl kd_76 rfl ?_
  refine z_iload_n rfl rfl ?_
  refine z_iconst rfl rfl ?_
  refine z_iadd rfl ?_
  refine z_iaload rfl kd_77 ?_
  refine z_ineg rfl ?_
  refine z_aload_n rfl rfl ?_
  refine z_iload_n rfl rfl ?_
  refine z_iload_n rfl rfl ?_
  refine z_iload_n rfl rfl ?_
  refine z_V3i ko5 mv_X5_46 kd_76 (t_X5_misses _ _ _ _) rfl rfl rfl rfl rfl (fun r1 h1 => ?_)
  refine z_imul rfl ?_
  refine z_aload_n rfl rfl ?_
  refine z_getRn (m := 77) rfl fl_X5_7 rfl kd_76 rfl ?_
  refine z_iload_n rfl rfl ?_
  refine z_iconst rfl rfl ?_
  refine z_iadd rfl ?_
  refine z_iaload rfl kd_77 ?_
  refine z_aload_n rfl rfl ?_
  refine z_getRn (m := 77) rfl fl_X5_7 rfl kd_76 rfl ?_
  refine z_iload_n rfl rfl ?_
  refine z_iload_n rfl rfl ?_
  refine z_S2i ms_X5_43 (t_X5_claimAt _ _ _) rfl rfl rfl rfl (fun r2 h2 => ?_)
  refine z_iconst rfl rfl ?_
  refine z_iadd rfl ?_
  refine z_iaload rfl kd_77 ?_
  refine z_imul rfl ?_
  refine z_isub rfl ?_
  refine z_istoreL rfl rfl (fun y3 => ?_)
  refine z_iconst rfl rfl ?_
  refine z_istore rfl rfl ?_
  refine Z.weak ?_ (t_X5_pointsOf_L32  _ _ _     fu _ _ _)
  · exact wkL_c (wkL_c (wkL_c (wkL_c (wkL_c (wkL_c (wkL_n (wkL_nil _)))))))
set_option maxRecDepth 20000 in
set_option maxHeartbeats 1000000 in
theorem t_X5_suits (x1 : Int) (x2 : Int) (x3 : Int) (h : Hp) : Ct M_X5_suits [vr 76, vi x1, vi x2, vi x3] h (f_X5_suits x1 x2 x3 h) := by
  refine Ct.mk ok_X5_suits pl_X5_suits rfl rfl ?_
  show Z M_X5_suits 0 [some (vr 76), some (vi x1), some (vi x2), some (vi x3)] [] h (f_X5_suits x1 x2 x3 h)
  unfold f_X5_suits
  refine z_aload_n rfl rfl ?_
  refine z_iload_n rfl rfl ?_
  refine z_iload_n rfl rfl ?_
  refine z_iload_n rfl rfl ?_
  refine z_V3i ko5 mv_X5_46 kd_76 (t_X5_misses _ _ _ _) rfl rfl rfl rfl rfl (fun r1 h1 => ?_)
  refine z_aload_n rfl rfl ?_
  refine z_getRn (m := 77) rfl fl_X5_7 rfl kd_76 rfl ?_
  refine z_iload_n rfl rfl ?_
  refine z_iconst rfl rfl ?_
  refine z_iadd rfl ?_
  refine z_iaload rfl kd_77 ?_
  refine z_icmp_gt rfl ?_ ?_
  · refine z_iconst rfl rfl ?_
    exact z_zret0 rfl rfl
  · refine z_aload_n rfl rfl ?_
    refine z_iload_n rfl rfl ?_
    refine z_iload_n rfl rfl ?_
    refine z_iload_n rfl rfl ?_
    refine z_V3i ko5 mv_X5_53 kd_76 (t_X5_pointsOf _ _ _ _) rfl rfl rfl rfl rfl (fun r2 h2 => ?_)
    refine z_aload_n rfl rfl ?_
    refine z_getRn (m := 77) rfl fl_X5_7 rfl kd_76 rfl ?_
    refine z_iload_n rfl rfl ?_
    refine z_iconst rfl rfl ?_
    refine z_iadd rfl ?_
    refine z_iaload rfl kd_77 ?_
    refine z_icmp_lt rfl ?_ ?_
    · refine z_iconst rfl rfl ?_
      exact z_zret0 rfl rfl
    · refine z_iconst rfl rfl ?_
      refine z_goto rfl ?_
      exact z_zret1 rfl rfl
set_option maxRecDepth 20000 in
set_option maxHeartbeats 1000000 in
theorem t_X5_clears_L2 (x1 : Int) (c22 : Hp → Option (Int × Hp)) (hc22 : ∀ (h : Hp), Z M_X5_clears 22 [some (vr 76), some (vi x1), none, none] [] h (c22  h)) : ∀ (n : Nat) (x2 : Int) (h : Hp), Z M_X5_clears 2 [some (vr 76), some (vi x1), some (vi x2), none] [] h (f_X5_clears_L2 x1 c22 n x2 h) := by
  intro n
  induction n with
  | zero => intro x2 h; exact Z.nix
  | succ n ih =>
    intro x2 h
    rw [f_X5_clears_L2_s]
    refine z_iload_n rfl rfl ?_
    refine z_bipush rfl rfl ?_
    refine z_icmp_ge rfl ?_ ?_
    · refine Z.weak ?_ (hc22 _)
      exact wkL_c (wkL_c (wkL_n (wkL_n (wkL_nil _))))
    · refine z_aload_n rfl rfl ?_
      refine z_getRn (m := 79) rfl fl_X5_16 rfl kd_76 rfl ?_
      refine z_iload_n rfl rfl ?_
      refine z_iconst rfl rfl ?_
      refine z_iastoreL kd_79 rfl (fun h1 => ?_)
      refine z_aload_n rfl rfl ?_
      refine z_getRn (m := 80) rfl fl_X5_19 rfl kd_76 rfl ?_
      refine z_iload_n rfl rfl ?_
      refine z_iconst rfl rfl ?_
      refine z_iastoreL kd_80 rfl (fun h2 => ?_)
      refine z_aload_n rfl rfl ?_
      refine z_getRn (m := 82) rfl fl_X5_25 rfl kd_76 rfl ?_
      refine z_iload_n rfl rfl ?_
      refine z_iconst rfl rfl ?_
      refine z_iastoreL kd_82 rfl (fun h3 => ?_)
      refine z_iinc rfl rfl rfl ?_
      refine z_goto rfl ?_
      refine Z.weak ?_ (ih _ _)
      exact wkL_c (wkL_c (wkL_c (wkL_n (wkL_nil _))))
set_option maxRecDepth 20000 in
set_option maxHeartbeats 1000000 in
theorem t_X5_clears_J50 (c24 : Int → Hp → Option (Int × Hp)) (x1 : Int) (x2 : Int) (s0 : Int) (hc24 : ∀ (y2 : Int) (h : Hp), Z M_X5_clears 24 [some (vr 76), some (vi x1), some (vi y2), none] [] h (c24 y2 h)) (h : Hp) : Z M_X5_clears 50 [some (vr 76), some (vi x1), some (vi x2), none] [vi s0] h (f_X5_clears_J50 c24 x1 x2 s0 h) := by
  unfold f_X5_clears_J50
  refine z_istore_n rfl rfl ?_
  refine z_aload_n rfl rfl ?_
  refine z_getRn (m := 81) rfl fl_X5_22 rfl kd_76 rfl ?_
  refine z_iload_n rfl rfl ?_
  refine z_iload_n rfl rfl ?_
  refine z_if_eq rfl ?_ ?_
  · refine z_iconst rfl rfl ?_
    refine z_iastoreL kd_81 rfl (fun h5 => ?_)
    refine z_iinc rfl rfl rfl ?_
    refine z_goto rfl ?_
    refine Z.weak ?_ (hc24 _ _)
    exact wkL_c (wkL_c (wkL_c (wkL_n (wkL_nil _))))
  · refine z_aload_n rfl rfl ?_
    refine z_iload_n rfl rfl ?_
    refine z_iload_n rfl rfl ?_
    refine z_bipush rfl rfl ?_
    refine z_idiv rfl rfl ?_
    refine z_iload_n rfl rfl ?_
    refine z_bipush rfl rfl ?_
    refine z_irem rfl rfl ?_
    refine z_V3i ko5 mv_X5_56 kd_76 (t_X5_suits _ _ _ _) rfl rfl rfl rfl rfl (fun r6 h6 => ?_)
    refine z_if_eq rfl ?_ ?_
    · refine z_iconst rfl rfl ?_
      refine z_iastoreL kd_81 rfl (fun h7 => ?_)
      refine z_iinc rfl rfl rfl ?_
      refine z_goto rfl ?_
      refine Z.weak ?_ (hc24 _ _)
      exact wkL_c (wkL_c (wkL_c (wkL_n (wkL_nil _))))
    · refine z_aload_n rfl rfl ?_
      refine z_iload_n rfl rfl ?_
      refine z_iload_n rfl rfl ?_
      refine z_bipush rfl rfl ?_
      refine z_idiv rfl rfl ?_
      refine z_iload_n rfl rfl ?_
      refine z_bipush rfl rfl ?_
      refine z_irem rfl rfl ?_
      refine z_V3i ko5 mv_X5_53 kd_76 (t_X5_pointsOf _ _ _ _) rfl rfl rfl rfl rfl (fun r8 h8 => ?_)
      refine z_goto rfl ?_
      refine z_iastoreL kd_81 rfl (fun h9 => ?_)
      refine z_iinc rfl rfl rfl ?_
      refine z_goto rfl ?_
      refine Z.weak ?_ (hc24 _ _)
      exact wkL_c (wkL_c (wkL_c (wkL_n (wkL_nil _))))
set_option maxRecDepth 20000 in
set_option maxHeartbeats 1000000 in
theorem t_X5_clears_J49 (c24 : Int → Hp → Option (Int × Hp)) (x1 : Int) (x2 : Int) (hc24 : ∀ (y2 : Int) (h : Hp), Z M_X5_clears 24 [some (vr 76), some (vi x1), some (vi y2), none] [] h (c24 y2 h)) (h : Hp) : Z M_X5_clears 49 [some (vr 76), some (vi x1), some (vi x2), none] [] h (f_X5_clears_J49 c24 x1 x2 h) := by
  unfold f_X5_clears_J49
  refine z_iconst rfl rfl ?_
  refine Z.weak ?_ (t_X5_clears_J50  _ _ _ _ hc24 _)
  exact wkL_c (wkL_c (wkL_c (wkL_n (wkL_nil _))))
set_option maxRecDepth 20000 in
set_option maxHeartbeats 1000000 in
theorem t_X5_clears_L24 (x1 : Int) : ∀ (n : Nat) (x2 : Int) (h : Hp), Z M_X5_clears 24 [some (vr 76), some (vi x1), some (vi x2), none] [] h (f_X5_clears_L24 x1 n x2 h) := by
  intro n
  induction n with
  | zero => intro x2 h; exact Z.nix
  | succ n ih =>
    intro x2 h
    rw [f_X5_clears_L24_s]
    refine z_iload_n rfl rfl ?_
    refine z_sipush rfl rfl ?_
    refine z_icmp_ge rfl ?_ ?_
    · exact z_return rfl rfl
    · refine z_iload_n rfl rfl ?_
      refine z_bipush rfl rfl ?_
      refine z_idiv rfl rfl ?_
      refine z_aload_n rfl rfl ?_
      refine z_getRn (m := 77) rfl fl_X5_7 rfl kd_76 rfl ?_
      refine z_iload_n rfl rfl ?_
      refine z_bipush rfl rfl ?_
      refine z_iadd rfl ?_
      refine z_iaload rfl kd_77 ?_
      refine z_icmp_ge rfl ?_ ?_
      · refine Z.weak ?_ (t_X5_clears_J49  _ _ _ ih _)
        exact wkL_c (wkL_c (wkL_c (wkL_n (wkL_nil _))))
      · refine z_iload_n rfl rfl ?_
        refine z_bipush rfl rfl ?_
        refine z_irem rfl rfl ?_
        refine z_aload_n rfl rfl ?_
        refine z_getRn (m := 77) rfl fl_X5_7 rfl kd_76 rfl ?_
        refine z_iload_n rfl rfl ?_
        refine z_bipush rfl rfl ?_
        refine z_iadd rfl ?_
        refine z_iaload rfl kd_77 ?_
        refine z_icmp_ge rfl ?_ ?_
        · refine Z.weak ?_ (t_X5_clears_J49  _ _ _ ih _)
          exact wkL_c (wkL_c (wkL_c (wkL_n (wkL_nil _))))
        · refine z_iconst rfl rfl ?_
          refine z_goto rfl ?_
          refine Z.weak ?_ (t_X5_clears_J50  _ _ _ _ ih _)
          exact wkL_c (wkL_c (wkL_c (wkL_n (wkL_nil _))))
set_option maxRecDepth 20000 in
set_option maxHeartbeats 1000000 in
theorem t_X5_clears (x1 : Int) (h : Hp) : Ct M_X5_clears [vr 76, vi x1] h (f_X5_clears x1 h) := by
  refine Ct.mk ok_X5_clears pl_X5_clears rfl rfl ?_
  show Z M_X5_clears 0 [some (vr 76), some (vi x1), none, none] [] h (f_X5_clears x1 h)
  unfold f_X5_clears
  refine z_iconst rfl rfl ?_
  refine z_istore_n rfl rfl ?_
  refine Z.weak ?_ (t_X5_clears_L2  _  _  ?_  fu _ _)
  · exact wkL_c (wkL_c (wkL_c (wkL_n (wkL_nil _))))
  · intro h4
    refine z_iconst rfl rfl ?_
    refine z_istore_n rfl rfl ?_
    refine Z.weak ?_ (t_X5_clears_L24  _     fu _ _)
    · exact wkL_c (wkL_c (wkL_c (wkL_n (wkL_nil _))))
set_option maxRecDepth 20000 in
set_option maxHeartbeats 1000000 in
theorem t_X5_byAsking_L15 (x1 : Int) (x2 : Int) (c23 : Hp → Option (Int × Hp)) (hc23 : ∀ (h : Hp), Z M_X5_byAsking 23 [some (vr 76), some (vi x1), some (vi x2), none] [] h (c23  h)) : ∀ (n : Nat) (x3 : Int) (h : Hp), Z M_X5_byAsking 15 [some (vr 76), some (vi x1), some (vi x2), some (vi x3)] [] h (f_X5_byAsking_L15 x1 x2 c23 n x3 h) := by
  intro n
  induction n with
  | zero => intro x3 h; exact Z.nix
  | succ n ih =>
    intro x3 h
    rw [f_X5_byAsking_L15_s]
    refine z_iload_n rfl rfl ?_
    refine z_iconst rfl rfl ?_
    refine z_icmp_eq rfl ?_ ?_
    · refine Z.weak ?_ (hc23 _)
      exact wkL_c (wkL_c (wkL_c (wkL_n (wkL_nil _))))
    · refine z_aload_n rfl rfl ?_
      refine z_iload_n rfl rfl ?_
      refine z_V1i ko5 mv_X5_68 kd_76 (t_X5_asksOn _ _) rfl rfl rfl rfl rfl (fun r2 h2 => ?_)
      refine z_istore_n rfl rfl ?_
      refine z_goto rfl ?_
      refine Z.weak ?_ (ih _ _)
      exact wkL_c (wkL_c (wkL_c (wkL_c (wkL_nil _))))
set_option maxRecDepth 20000 in
set_option maxHeartbeats 1000000 in
theorem t_X5_byAsking_L5 (x1 : Int) (c25 : Hp → Option (Int × Hp)) (hc25 : ∀ (h : Hp), Z M_X5_byAsking 25 [some (vr 76), none, none, none] [] h (c25  h)) : ∀ (n : Nat) (x2 : Int) (h : Hp), Z M_X5_byAsking 5 [some (vr 76), some (vi x1), some (vi x2), none] [] h (f_X5_byAsking_L5 x1 c25 n x2 h) := by
  intro n
  induction n with
  | zero => intro x2 h; exact Z.nix
  | succ n ih =>
    intro x2 h
    rw [f_X5_byAsking_L5_s]
    refine z_iload_n rfl rfl ?_
    refine z_aload_n rfl rfl ?_
    refine z_getRn (m := 77) rfl fl_X5_7 rfl kd_76 rfl ?_
    refine z_iload_n rfl rfl ?_
    refine z_bipush rfl rfl ?_
    refine z_iadd rfl ?_
    refine z_iaload rfl kd_77 ?_
    refine z_icmp_ge rfl ?_ ?_
    · refine Z.weak ?_ (hc25 _)
      exact wkL_c (wkL_n (wkL_n (wkL_n (wkL_nil _))))
    · refine z_iload_n rfl rfl ?_
      refine z_istore_n rfl rfl ?_
      refine Z.weak ?_ (t_X5_byAsking_L15  _ _  _  ?_  fu _ _)
      · exact wkL_c (wkL_c (wkL_c (wkL_c (wkL_nil _))))
      · intro h3
        refine z_iinc rfl rfl rfl ?_
        refine z_goto rfl ?_
        refine Z.weak ?_ (ih _ _)
        exact wkL_c (wkL_c (wkL_c (wkL_n (wkL_nil _))))
set_option maxRecDepth 20000 in
set_option maxHeartbeats 1000000 in
theorem t_X5_byAsking_L29  : ∀ (n : Nat) (x2 : Int) (x3 : Int) (h : Hp), Z M_X5_byAsking 29 [some (vr 76), none, some (vi x2), some (vi x3)] [] h (f_X5_byAsking_L29  n x2 x3 h) := by
  intro n
  induction n with
  | zero => intro x2 x3 h; exact Z.nix
  | succ n ih =>
    intro x2 x3 h
    rw [f_X5_byAsking_L29_s]
    refine z_iload_n rfl rfl ?_
    refine z_bipush rfl rfl ?_
    refine z_icmp_ge rfl ?_ ?_
    · refine z_iload_n rfl rfl ?_
      exact z_ireturn rfl rfl
    · refine z_iload_n rfl rfl ?_
      refine z_aload_n rfl rfl ?_
      refine z_getRn (m := 79) rfl fl_X5_16 rfl kd_76 rfl ?_
      refine z_iload_n rfl rfl ?_
      refine z_iaload rfl kd_79 ?_
      refine z_iconst rfl rfl ?_
      refine z_icmp_ne rfl ?_ ?_
      · refine z_iconst rfl rfl ?_
        refine z_iadd rfl ?_
        refine z_istore_nL rfl rfl (fun y5 => ?_)
        refine z_iinc rfl rfl rfl ?_
        refine z_goto rfl ?_
        refine Z.weak ?_ (ih _ _ _)
        exact wkL_c (wkL_n (wkL_c (wkL_c (wkL_nil _))))
      · refine z_iconst rfl rfl ?_
        refine z_goto rfl ?_
        refine z_iadd rfl ?_
        refine z_istore_nL rfl rfl (fun y6 => ?_)
        refine z_iinc rfl rfl rfl ?_
        refine z_goto rfl ?_
        refine Z.weak ?_ (ih _ _ _)
        exact wkL_c (wkL_n (wkL_c (wkL_c (wkL_nil _))))
set_option maxRecDepth 20000 in
set_option maxHeartbeats 1000000 in
theorem t_X5_byAsking (x1 : Int) (h : Hp) : Ct M_X5_byAsking [vr 76, vi x1] h (f_X5_byAsking x1 h) := by
  refine Ct.mk ok_X5_byAsking pl_X5_byAsking rfl rfl ?_
  show Z M_X5_byAsking 0 [some (vr 76), some (vi x1), none, none] [] h (f_X5_byAsking x1 h)
  unfold f_X5_byAsking
  refine z_aload_n rfl rfl ?_
  refine z_iload_n rfl rfl ?_
  refine z_V1v ko5 mv_X5_60 kd_76 (t_X5_clears _ _) rfl rfl rfl rfl rfl (fun _ h1 => ?_)
  refine z_iconst rfl rfl ?_
  refine z_istore_n rfl rfl ?_
  refine Z.weak ?_ (t_X5_byAsking_L5  _  _  ?_  fu _ _)
  · exact wkL_c (wkL_c (wkL_c (wkL_n (wkL_nil _))))
  · intro h4
    refine z_iconst rfl rfl ?_
    refine z_istore_n rfl rfl ?_
    refine z_iconst rfl rfl ?_
    refine z_istore_n rfl rfl ?_
    refine Z.weak ?_ (t_X5_byAsking_L29      fu _ _ _)
    · exact wkL_c (wkL_n (wkL_c (wkL_c (wkL_nil _))))
set_option maxRecDepth 20000 in
set_option maxHeartbeats 1000000 in
theorem t_X5_lays (x1 : Int) (x2 : Int) (x3 : Int) (x4 : Int) (x5 : Int) (h : Hp) : Ct M_X5_lays [vr 76, vi x1, vi x2, vi x3, vi x4, vi x5] h (f_X5_lays x1 x2 x3 x4 x5 h) := by
  refine Ct.mk ok_X5_lays pl_X5_lays rfl rfl ?_
  show Z M_X5_lays 0 [some (vr 76), some (vi x1), some (vi x2), some (vi x3), some (vi x4), some (vi x5)] [] h (f_X5_lays x1 x2 x3 x4 x5 h)
  unfold f_X5_lays
  refine z_aload_n rfl rfl ?_
  refine z_getRn (m := 77) rfl fl_X5_7 rfl kd_76 rfl ?_
  refine z_iload_n rfl rfl ?_
  refine z_iload_n rfl rfl ?_
  refine z_iastoreL kd_77 rfl (fun h1 => ?_)
  refine z_aload_n rfl rfl ?_
  refine z_getRn (m := 77) rfl fl_X5_7 rfl kd_76 rfl ?_
  refine z_iload_n rfl rfl ?_
  refine z_iconst rfl rfl ?_
  refine z_iadd rfl ?_
  refine z_iload_n rfl rfl ?_
  refine z_iastoreL kd_77 rfl (fun h2 => ?_)
  refine z_aload_n rfl rfl ?_
  refine z_getRn (m := 77) rfl fl_X5_7 rfl kd_76 rfl ?_
  refine z_iload_n rfl rfl ?_
  refine z_iconst rfl rfl ?_
  refine z_iadd rfl ?_
  refine z_iload rfl rfl ?_
  refine z_iastoreL kd_77 rfl (fun h3 => ?_)
  refine z_aload_n rfl rfl ?_
  refine z_getRn (m := 77) rfl fl_X5_7 rfl kd_76 rfl ?_
  refine z_iload_n rfl rfl ?_
  refine z_iconst rfl rfl ?_
  refine z_iadd rfl ?_
  refine z_iload rfl rfl ?_
  refine z_iastoreL kd_77 rfl (fun h4 => ?_)
  refine z_aload_n rfl rfl ?_
  refine z_getRn (m := 77) rfl fl_X5_7 rfl kd_76 rfl ?_
  refine z_iload_n rfl rfl ?_
  refine z_iconst rfl rfl ?_
  refine z_iadd rfl ?_
  refine z_iconst rfl rfl ?_
  refine z_iastoreL kd_77 rfl (fun h5 => ?_)
  exact z_return rfl rfl
