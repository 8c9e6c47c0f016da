/-! printed by wip/gen/gen26.py: the bytecode does what the functions say -/
set_option maxRecDepth 20000 in
set_option maxHeartbeats 1000000 in
theorem t_L_hands_L12 (x2 : Int) (x3 : Int) (c37 : Int → Hp → Option (Int × Hp)) (hc37 : ∀ (y1 : Int) (h : Hp), Z M_L_hands 0 0 37 [some (vr 0), some (vi y1), some (vi x2), some (vi x3), none, none, none, none, none, none] [] h (c37 y1 h)) : ∀ (n : Nat) (x1 : Int) (x4 : Int) (h : Hp), Z M_L_hands 0 0 12 [some (vr 0), some (vi x1), some (vi x2), some (vi x3), some (vi x4), none, none, none, none, none] [] h (f_L_hands_L12 x2 x3 c37 n x1 x4 h) := by
  intro n
  induction n with
  | zero => intro x1 x4 h; exact Z.nix
  | succ n ih =>
    intro x1 x4 h
    rw [f_L_hands_L12_s]
    refine z_iload rfl rfl ?_
    refine z_aload_n rfl rfl ?_
    refine z_iconst rfl rfl ?_
    refine z_V1i ko4 mv_L_47 kd_0 (t_X4_count _ _) rfl rfl rfl rfl rfl rfl (fun r3 h3 => ?_)
    refine z_icmp_ge rfl ?_ ?_
    · refine Z.weak ?_ (hc37 _ _)
      exact wkL_c (wkL_c (wkL_c (wkL_c (wkL_n (wkL_n (wkL_n (wkL_n (wkL_n (wkL_n (wkL_nil _))))))))))
    · refine z_iload_n rfl rfl ?_
      refine z_aload_n rfl rfl ?_
      refine z_iload rfl rfl ?_
      refine z_iconst rfl rfl ?_
      refine z_V2i ko4 mv_L_50 kd_0 (t_X4_umbrella _ _ _) rfl rfl rfl rfl rfl rfl (fun r4 h4 => ?_)
      refine z_if_lt rfl ?_ ?_
      · refine z_iconst rfl rfl ?_
        refine z_iadd rfl ?_
        refine z_istore_nL rfl rfl (fun y5 => ?_)
        refine z_iinc rfl rfl rfl ?_
        refine z_goto rfl ?_
        refine Z.weak ?_ (ih _ _ _)
        exact wkL_c (wkL_c (wkL_c (wkL_c (wkL_c (wkL_n (wkL_n (wkL_n (wkL_n (wkL_n (wkL_nil _))))))))))
      · refine z_aload_n rfl rfl ?_
        refine z_iload rfl rfl ?_
        refine z_iconst rfl rfl ?_
        refine z_V2i ko4 mv_L_50 kd_0 (t_X4_umbrella _ _ _) rfl rfl rfl rfl rfl rfl (fun r6 h6 => ?_)
        refine z_aload_n rfl rfl ?_
        refine z_bipush rfl rfl ?_
        refine z_V1i ko4 mv_L_47 kd_0 (t_X4_count _ _) rfl rfl rfl rfl rfl rfl (fun r7 h7 => ?_)
        refine z_imul rfl ?_
        refine z_goto rfl ?_
        refine z_iadd rfl ?_
        refine z_istore_nL rfl rfl (fun y8 => ?_)
        refine z_iinc rfl rfl rfl ?_
        refine z_goto rfl ?_
        refine Z.weak ?_ (ih _ _ _)
        exact wkL_c (wkL_c (wkL_c (wkL_c (wkL_c (wkL_n (wkL_n (wkL_n (wkL_n (wkL_n (wkL_nil _))))))))))
set_option maxRecDepth 20000 in
set_option maxHeartbeats 1000000 in
theorem t_L_hands_J105 (x7 : Int64) (s0 : Int) (h : Hp) : Z M_L_hands 2 0 105 [some (vr 0), none, none, none, none, none, none, some (vx (.long x7)), none, none] [vi s0] h (f_L_hands_J105 x7 s0 h) := by
  unfold f_L_hands_J105
  refine z_istore rfl rfl ?_
  refine z_iload rfl rfl ?_
  refine z_if_eq rfl ?_ ?_
  · refine z_iconst rfl rfl ?_
    exact z_zret0 rfl rfl
  · refine z_aload_n rfl rfl ?_
    refine z_V0i ko4 mv_L_99 kd_0 (t_X4_undo  _) rfl rfl rfl rfl rfl rfl (fun r17 h17 => ?_)
    refine z_if_lt rfl ?_ ?_
    · refine z_iconst rfl rfl ?_
      exact z_zret0 rfl rfl
    · refine z_aload_n rfl rfl ?_
      refine z_S1l ms_L_91 (t_L_print  _) rfl rfl rfl rfl rfl (fun r18 h18 => ?_)
      refine z_lload rfl rfl ?_
      refine z_lcmp rfl ?_
      refine z_if_ne rfl ?_ ?_
      · refine z_iconst rfl rfl ?_
        exact z_zret0 rfl rfl
      · refine z_iconst rfl rfl ?_
        refine z_goto rfl ?_
        exact z_zret1 rfl rfl
set_option maxRecDepth 20000 in
set_option maxHeartbeats 1000000 in
theorem t_L_hands_J104 (x7 : Int64) (h : Hp) : Z M_L_hands 2 0 104 [some (vr 0), none, none, none, none, none, none, some (vx (.long x7)), none, none] [] h (f_L_hands_J104 x7 h) := by
  unfold f_L_hands_J104
  refine z_iconst rfl rfl ?_
  refine Z.weak ?_ (t_L_hands_J105  _ _  _)
  exact wkL_c (wkL_n (wkL_n (wkL_n (wkL_n (wkL_n (wkL_n (wkL_c (wkL_n (wkL_n (wkL_nil _))))))))))
set_option maxRecDepth 20000 in
set_option maxHeartbeats 1000000 in
theorem t_L_hands_J99 (x7 : Int64) (h : Hp) : Z M_L_hands 0 0 99 [some (vr 0), none, none, none, none, none, none, some (vx (.long x7)), none, none] [] h (f_L_hands_J99 x7 h) := by
  unfold f_L_hands_J99
  refine z_aload_n rfl rfl ?_
  refine z_S1i ms_L_96 (t_L_hangs  _) rfl rfl rfl rfl rfl (fun r23 h23 => ?_)
  refine z_if_eq rfl ?_ ?_
  · refine Z.weak ?_ (t_L_hands_J104  _  _)
    exact wkL_c (wkL_n (wkL_n (wkL_n (wkL_n (wkL_n (wkL_n (wkL_c (wkL_n (wkL_n (wkL_nil _))))))))))
  · refine z_iconst rfl rfl ?_
    refine z_goto rfl ?_
    refine Z.weak ?_ (t_L_hands_J105  _ _  _)
    exact wkL_c (wkL_n (wkL_n (wkL_n (wkL_n (wkL_n (wkL_n (wkL_c (wkL_n (wkL_n (wkL_nil _))))))))))
set_option maxRecDepth 20000 in
set_option maxHeartbeats 1000000 in
theorem t_L_hands  (h : Hp) : Ct M_L_hands [vr 0] h (f_L_hands  h) := by
  refine Ct.mk ok_L_hands pl_L_hands rfl rfl ?_
  show Z M_L_hands 0 0 0 [some (vr 0), none, none, none, none, none, none, none, none, none] [] h (f_L_hands  h)
  unfold f_L_hands
  refine z_iconst rfl rfl ?_
  refine z_istore_n rfl rfl ?_
  refine z_aload_n rfl rfl ?_
  refine z_iconst rfl rfl ?_
  refine z_V1i ko4 mv_L_47 kd_0 (t_X4_count _ _) rfl rfl rfl rfl rfl rfl (fun r1 h1 => ?_)
  refine z_istore_n rfl rfl ?_
  refine z_aload_n rfl rfl ?_
  refine z_bipush rfl rfl ?_
  refine z_V1i ko4 mv_L_47 kd_0 (t_X4_count _ _) rfl rfl rfl rfl rfl rfl (fun r2 h2 => ?_)
  refine z_istore_n rfl rfl ?_
  refine z_iconst rfl rfl ?_
  refine z_istore rfl rfl ?_
  refine Z.weak ?_ (t_L_hands_L12  _ _  _  ?_  fu _ _ _)
  · exact wkL_c (wkL_c (wkL_c (wkL_c (wkL_c (wkL_n (wkL_n (wkL_n (wkL_n (wkL_n (wkL_nil _))))))))))
  · intro y9 h10
    refine z_aload_n rfl rfl ?_
    refine z_bipush rfl rfl ?_
    refine z_V1i ko4 mv_L_47 kd_0 (t_X4_count _ _) rfl rfl rfl rfl rfl rfl (fun r11 h11 => ?_)
    refine z_istore rfl rfl ?_
    refine z_aload_n rfl rfl ?_
    refine z_iconst rfl rfl ?_
    refine z_V1i ko4 mv_L_47 kd_0 (t_X4_count _ _) rfl rfl rfl rfl rfl rfl (fun r12 h12 => ?_)
    refine z_istore rfl rfl ?_
    refine z_aload_n rfl rfl ?_
    refine z_iconst rfl rfl ?_
    refine z_V1i ko4 mv_L_47 kd_0 (t_X4_count _ _) rfl rfl rfl rfl rfl rfl (fun r13 h13 => ?_)
    refine z_istore rfl rfl ?_
    refine z_aload_n rfl rfl ?_
    refine z_S1l ms_L_91 (t_L_print  _) rfl rfl rfl rfl rfl (fun r14 h14 => ?_)
    refine z_lstoreL rfl rfl (fun y15 => ?_)
    refine z_aload_n rfl rfl ?_
    refine z_V0i ko4 mv_L_33 kd_0 (t_X4_hand  _) rfl rfl rfl rfl rfl rfl (fun r16 h16 => ?_)
    refine z_iload_n rfl rfl ?_
    refine z_icmp_ne rfl ?_ ?_
    · refine Z.up (u2 := 2) (by decide) ?_
      refine Z.weak ?_ (t_L_hands_J104  _  _)
      exact wkL_c (wkL_n (wkL_n (wkL_n (wkL_n (wkL_n (wkL_n (wkL_c (wkL_n (wkL_n (wkL_nil _))))))))))
    · refine z_aload_n rfl rfl ?_
      refine z_bipush rfl rfl ?_
      refine z_V1i ko4 mv_L_47 kd_0 (t_X4_count _ _) rfl rfl rfl rfl rfl rfl (fun r19 h19 => ?_)
      refine z_iload_n rfl rfl ?_
      refine z_iload_n rfl rfl ?_
      refine z_iadd rfl ?_
      refine z_icmp_ne rfl ?_ ?_
      · refine Z.up (u2 := 2) (by decide) ?_
        refine Z.weak ?_ (t_L_hands_J104  _  _)
        exact wkL_c (wkL_n (wkL_n (wkL_n (wkL_n (wkL_n (wkL_n (wkL_c (wkL_n (wkL_n (wkL_nil _))))))))))
      · refine z_aload_n rfl rfl ?_
        refine z_bipush rfl rfl ?_
        refine z_V1i ko4 mv_L_47 kd_0 (t_X4_count _ _) rfl rfl rfl rfl rfl rfl (fun r20 h20 => ?_)
        refine z_iload rfl rfl ?_
        refine z_iload_n rfl rfl ?_
        refine z_iadd rfl ?_
        refine z_icmp_ne rfl ?_ ?_
        · refine Z.up (u2 := 2) (by decide) ?_
          refine Z.weak ?_ (t_L_hands_J104  _  _)
          exact wkL_c (wkL_n (wkL_n (wkL_n (wkL_n (wkL_n (wkL_n (wkL_c (wkL_n (wkL_n (wkL_nil _))))))))))
        · refine z_aload_n rfl rfl ?_
          refine z_iconst rfl rfl ?_
          refine z_V1i ko4 mv_L_47 kd_0 (t_X4_count _ _) rfl rfl rfl rfl rfl rfl (fun r21 h21 => ?_)
          refine z_iload rfl rfl ?_
          refine z_iload_n rfl rfl ?_
          refine z_isub rfl ?_
          refine z_icmp_ne rfl ?_ ?_
          · refine Z.up (u2 := 2) (by decide) ?_
            refine Z.weak ?_ (t_L_hands_J104  _  _)
            exact wkL_c (wkL_n (wkL_n (wkL_n (wkL_n (wkL_n (wkL_n (wkL_c (wkL_n (wkL_n (wkL_nil _))))))))))
          · refine z_aload_n rfl rfl ?_
            refine z_iconst rfl rfl ?_
            refine z_V1i ko4 mv_L_47 kd_0 (t_X4_count _ _) rfl rfl rfl rfl rfl rfl (fun r22 h22 => ?_)
            refine z_iload rfl rfl ?_
            refine z_iload_n rfl rfl ?_
            refine z_isub rfl ?_
            refine z_icmp_ne rfl ?_ ?_
            · refine Z.up (u2 := 2) (by decide) ?_
              refine Z.weak ?_ (t_L_hands_J104  _  _)
              exact wkL_c (wkL_n (wkL_n (wkL_n (wkL_n (wkL_n (wkL_n (wkL_c (wkL_n (wkL_n (wkL_nil _))))))))))
            · refine z_iload_n rfl rfl ?_
              refine z_if_eq rfl ?_ ?_
              · refine Z.weak ?_ (t_L_hands_J99  _  _)
                exact wkL_c (wkL_n (wkL_n (wkL_n (wkL_n (wkL_n (wkL_n (wkL_c (wkL_n (wkL_n (wkL_nil _))))))))))
              · refine z_aload_n rfl rfl ?_
                refine z_iconst rfl rfl ?_
                refine z_iconst rfl rfl ?_
                refine z_V2i ko4 mv_L_85 kd_0 (t_X4_book _ _ _) rfl rfl rfl rfl rfl rfl (fun r24 h24 => ?_)
                refine z_if_ne rfl ?_ ?_
                · refine Z.up (u2 := 2) (by decide) ?_
                  refine Z.weak ?_ (t_L_hands_J104  _  _)
                  exact wkL_c (wkL_n (wkL_n (wkL_n (wkL_n (wkL_n (wkL_n (wkL_c (wkL_n (wkL_n (wkL_nil _))))))))))
                · refine z_aload_n rfl rfl ?_
                  refine z_iconst rfl rfl ?_
                  refine z_iconst rfl rfl ?_
                  refine z_V2i ko4 mv_L_85 kd_0 (t_X4_book _ _ _) rfl rfl rfl rfl rfl rfl (fun r25 h25 => ?_)
                  refine z_aload_n rfl rfl ?_
                  refine z_iconst rfl rfl ?_
                  refine z_V1i ko4 mv_L_47 kd_0 (t_X4_count _ _) rfl rfl rfl rfl rfl rfl (fun r26 h26 => ?_)
                  refine z_icmp_ne rfl ?_ ?_
                  · refine Z.up (u2 := 2) (by decide) ?_
                    refine Z.weak ?_ (t_L_hands_J104  _  _)
                    exact wkL_c (wkL_n (wkL_n (wkL_n (wkL_n (wkL_n (wkL_n (wkL_c (wkL_n (wkL_n (wkL_nil _))))))))))
                  · refine Z.weak ?_ (t_L_hands_J99  _  _)
                    exact wkL_c (wkL_n (wkL_n (wkL_n (wkL_n (wkL_n (wkL_n (wkL_c (wkL_n (wkL_n (wkL_nil _))))))))))
set_option maxRecDepth 20000 in
set_option maxHeartbeats 1000000 in
theorem t_L_tells_J74 (x5 : Int64) (s0 : Int) (h : Hp) : Z M_L_tells 0 0 74 [some (vr 0), none, none, none, none, some (vx (.long x5)), none, none, none, none] [vi s0] h (f_L_tells_J74 x5 s0 h) := by
  unfold f_L_tells_J74
  refine z_istore rfl rfl ?_
  refine z_iload rfl rfl ?_
  refine z_if_eq rfl ?_ ?_
  · refine z_iconst rfl rfl ?_
    exact z_zret0 rfl rfl
  · refine z_aload_n rfl rfl ?_
    refine z_V0i ko4 mv_L_99 kd_0 (t_X4_undo  _) rfl rfl rfl rfl rfl rfl (fun r8 h8 => ?_)
    refine z_if_lt rfl ?_ ?_
    · refine z_iconst rfl rfl ?_
      exact z_zret0 rfl rfl
    · refine z_aload_n rfl rfl ?_
      refine z_S1l ms_L_91 (t_L_print  _) rfl rfl rfl rfl rfl (fun r9 h9 => ?_)
      refine z_lload rfl rfl ?_
      refine z_lcmp rfl ?_
      refine z_if_ne rfl ?_ ?_
      · refine z_iconst rfl rfl ?_
        exact z_zret0 rfl rfl
      · refine z_iconst rfl rfl ?_
        refine z_goto rfl ?_
        exact z_zret1 rfl rfl
set_option maxRecDepth 20000 in
set_option maxHeartbeats 1000000 in
theorem t_L_tells_J73 (x5 : Int64) (h : Hp) : Z M_L_tells 0 0 73 [some (vr 0), none, none, none, none, some (vx (.long x5)), none, none, none, none] [] h (f_L_tells_J73 x5 h) := by
  unfold f_L_tells_J73
  refine z_iconst rfl rfl ?_
  refine Z.weak ?_ (t_L_tells_J74  _ _  _)
  exact wkL_c (wkL_n (wkL_n (wkL_n (wkL_n (wkL_c (wkL_n (wkL_n (wkL_n (wkL_n (wkL_nil _))))))))))
set_option maxRecDepth 20000 in
set_option maxHeartbeats 1000000 in
theorem t_L_tells_J57 (x1 : Int) (x2 : Int) (x3 : Int) (x4 : Int) (x5 : Int64) (s0 : Int) (s1 : Int) (s2 : Int) (h : Hp) : Z M_L_tells 0 0 57 [some (vr 0), some (vi x1), some (vi x2), some (vi x3), some (vi x4), some (vx (.long x5)), none, none, none, none] [vi s2, vi s1, vi s0] h (f_L_tells_J57 x1 x2 x3 x4 x5 s0 s1 s2 h) := by
  unfold f_L_tells_J57
  refine z_iadd rfl ?_
  refine z_icmp_ne rfl ?_ ?_
  · refine Z.weak ?_ (t_L_tells_J73  _  _)
    exact wkL_c (wkL_n (wkL_n (wkL_n (wkL_n (wkL_c (wkL_n (wkL_n (wkL_n (wkL_n (wkL_nil _))))))))))
  · refine z_aload_n rfl rfl ?_
    refine z_iload_n rfl rfl ?_
    refine z_iload_n rfl rfl ?_
    refine z_V2i ko4 mv_L_56 kd_0 (t_X4_claimOf _ _ _) rfl rfl rfl rfl rfl rfl (fun r10 h10 => ?_)
    refine z_iload_n rfl rfl ?_
    refine z_icmp_ne rfl ?_ ?_
    · refine Z.weak ?_ (t_L_tells_J73  _  _)
      exact wkL_c (wkL_n (wkL_n (wkL_n (wkL_n (wkL_c (wkL_n (wkL_n (wkL_n (wkL_n (wkL_nil _))))))))))
    · refine z_aload_n rfl rfl ?_
      refine z_iload_n rfl rfl ?_
      refine z_iconst rfl rfl ?_
      refine z_V2i ko4 mv_L_56 kd_0 (t_X4_claimOf _ _ _) rfl rfl rfl rfl rfl rfl (fun r11 h11 => ?_)
      refine z_iload rfl rfl ?_
      refine z_icmp_ne rfl ?_ ?_
      · refine Z.weak ?_ (t_L_tells_J73  _  _)
        exact wkL_c (wkL_n (wkL_n (wkL_n (wkL_n (wkL_c (wkL_n (wkL_n (wkL_n (wkL_n (wkL_nil _))))))))))
      · refine z_iconst rfl rfl ?_
        refine z_goto rfl ?_
        refine Z.weak ?_ (t_L_tells_J74  _ _  _)
        exact wkL_c (wkL_n (wkL_n (wkL_n (wkL_n (wkL_c (wkL_n (wkL_n (wkL_n (wkL_n (wkL_nil _))))))))))
set_option maxRecDepth 20000 in
set_option maxHeartbeats 1000000 in
theorem t_L_tells_J56 (x1 : Int) (x2 : Int) (x3 : Int) (x4 : Int) (x5 : Int64) (s0 : Int) (s1 : Int) (h : Hp) : Z M_L_tells 0 0 56 [some (vr 0), some (vi x1), some (vi x2), some (vi x3), some (vi x4), some (vx (.long x5)), none, none, none, none] [vi s1, vi s0] h (f_L_tells_J56 x1 x2 x3 x4 x5 s0 s1 h) := by
  unfold f_L_tells_J56
  refine z_iconst rfl rfl ?_
  refine Z.weak ?_ (t_L_tells_J57  _ _ _ _ _ _ _ _  _)
  exact wkL_c (wkL_c (wkL_c (wkL_c (wkL_c (wkL_c (wkL_n (wkL_n (wkL_n (wkL_n (wkL_nil _))))))))))
set_option maxRecDepth 20000 in
set_option maxHeartbeats 1000000 in
theorem t_L_tells (x1 : Int) (x2 : Int) (x3 : Int) (h : Hp) : Ct M_L_tells [vr 0, vi x1, vi x2, vi x3] h (f_L_tells x1 x2 x3 h) := by
  refine Ct.mk ok_L_tells pl_L_tells rfl rfl ?_
  show Z M_L_tells 0 0 0 [some (vr 0), some (vi x1), some (vi x2), some (vi x3), none, none, none, none, none, none] [] h (f_L_tells x1 x2 x3 h)
  unfold f_L_tells
  refine z_aload_n rfl rfl ?_
  refine z_iload_n rfl rfl ?_
  refine z_iload_n rfl rfl ?_
  refine z_iload_n rfl rfl ?_
  refine z_V3i ko4 mv_L_102 kd_0 (t_X4_ifTold _ _ _ _) rfl rfl rfl rfl rfl rfl (fun r1 h1 => ?_)
  refine z_istore rfl rfl ?_
  refine z_aload_n rfl rfl ?_
  refine z_S1l ms_L_91 (t_L_print  _) rfl rfl rfl rfl rfl (fun r2 h2 => ?_)
  refine z_lstoreL rfl rfl (fun y3 => ?_)
  refine z_iload_n rfl rfl ?_
  refine z_aload_n rfl rfl ?_
  refine z_iconst rfl rfl ?_
  refine z_V1i ko4 mv_L_47 kd_0 (t_X4_count _ _) rfl rfl rfl rfl rfl rfl (fun r4 h4 => ?_)
  refine z_icmp_lt rfl ?_ ?_
  · refine z_aload_n rfl rfl ?_
    refine z_iload_n rfl rfl ?_
    refine z_bipush rfl rfl ?_
    refine z_V2i ko4 mv_L_56 kd_0 (t_X4_claimOf _ _ _) rfl rfl rfl rfl rfl rfl (fun r5 h5 => ?_)
    refine z_istore rfl rfl ?_
    refine z_aload_n rfl rfl ?_
    refine z_iload_n rfl rfl ?_
    refine z_iload_n rfl rfl ?_
    refine z_V2i ko4 mv_L_56 kd_0 (t_X4_claimOf _ _ _) rfl rfl rfl rfl rfl rfl (fun r6 h6 => ?_)
    refine z_istore rfl rfl ?_
    refine z_aload_n rfl rfl ?_
    refine z_iload_n rfl rfl ?_
    refine z_iload_n rfl rfl ?_
    refine z_iload_n rfl rfl ?_
    refine z_V3i ko4 mv_L_25 kd_0 (t_X4_tell _ _ _ _) rfl rfl rfl rfl rfl rfl (fun r7 h7 => ?_)
    refine z_iload rfl rfl ?_
    refine z_iload rfl rfl ?_
    refine z_if_lt rfl ?_ ?_
    · refine Z.weak ?_ (t_L_tells_J56  _ _ _ _ _ _ _  _)
      exact wkL_c (wkL_c (wkL_c (wkL_c (wkL_c (wkL_c (wkL_n (wkL_n (wkL_n (wkL_n (wkL_nil _))))))))))
    · refine z_iload rfl rfl ?_
      refine z_iload_n rfl rfl ?_
      refine z_icmp_eq rfl ?_ ?_
      · refine Z.weak ?_ (t_L_tells_J56  _ _ _ _ _ _ _  _)
        exact wkL_c (wkL_c (wkL_c (wkL_c (wkL_c (wkL_c (wkL_n (wkL_n (wkL_n (wkL_n (wkL_nil _))))))))))
      · refine z_iconst rfl rfl ?_
        refine z_goto rfl ?_
        refine Z.weak ?_ (t_L_tells_J57  _ _ _ _ _ _ _ _  _)
        exact wkL_c (wkL_c (wkL_c (wkL_c (wkL_c (wkL_c (wkL_n (wkL_n (wkL_n (wkL_n (wkL_nil _))))))))))
  · refine z_iload rfl rfl ?_
    refine z_ldc rfl cst_L_105 rfl ?_
    refine z_icmp_ne rfl ?_ ?_
    · refine z_iconst rfl rfl ?_
      exact z_zret0 rfl rfl
    · refine z_aload_n rfl rfl ?_
      refine z_iload_n rfl rfl ?_
      refine z_iload_n rfl rfl ?_
      refine z_iload_n rfl rfl ?_
      refine z_V3i ko4 mv_L_25 kd_0 (t_X4_tell _ _ _ _) rfl rfl rfl rfl rfl rfl (fun r12 h12 => ?_)
      refine z_iload rfl rfl ?_
      refine z_icmp_ne rfl ?_ ?_
      · refine z_iconst rfl rfl ?_
        exact z_zret0 rfl rfl
      · refine z_aload_n rfl rfl ?_
        refine z_S1l ms_L_91 (t_L_print  _) rfl rfl rfl rfl rfl (fun r13 h13 => ?_)
        refine z_lload rfl rfl ?_
        refine z_lcmp rfl ?_
        refine z_if_ne rfl ?_ ?_
        · refine z_iconst rfl rfl ?_
          exact z_zret0 rfl rfl
        · refine z_iconst rfl rfl ?_
          refine z_goto rfl ?_
          exact z_zret1 rfl rfl
set_option maxRecDepth 20000 in
set_option maxHeartbeats 1000000 in
theorem t_L_weeks_J103 (x9 : Int64) (s0 : Int) (h : Hp) : Z M_L_weeks 2 0 103 [some (vr 0), none, none, none, none, none, none, none, none, some (vx (.long x9)), none, none, none] [vi s0] h (f_L_weeks_J103 x9 s0 h) := by
  unfold f_L_weeks_J103
  refine z_istore rfl rfl ?_
  refine z_iload rfl rfl ?_
  refine z_if_eq rfl ?_ ?_
  · refine z_iconst rfl rfl ?_
    exact z_zret0 rfl rfl
  · refine z_aload_n rfl rfl ?_
    refine z_V0i ko4 mv_L_99 kd_0 (t_X4_undo  _) rfl rfl rfl rfl rfl rfl (fun r11 h11 => ?_)
    refine z_if_lt rfl ?_ ?_
    · refine z_iconst rfl rfl ?_
      exact z_zret0 rfl rfl
    · refine z_aload_n rfl rfl ?_
      refine z_S1l ms_L_91 (t_L_print  _) rfl rfl rfl rfl rfl (fun r12 h12 => ?_)
      refine z_lload rfl rfl ?_
      refine z_lcmp rfl ?_
      refine z_if_ne rfl ?_ ?_
      · refine z_iconst rfl rfl ?_
        exact z_zret0 rfl rfl
      · refine z_iconst rfl rfl ?_
        refine z_goto rfl ?_
        exact z_zret1 rfl rfl
set_option maxRecDepth 20000 in
set_option maxHeartbeats 1000000 in
theorem t_L_weeks_J102 (x9 : Int64) (h : Hp) : Z M_L_weeks 2 0 102 [some (vr 0), none, none, none, none, none, none, none, none, some (vx (.long x9)), none, none, none] [] h (f_L_weeks_J102 x9 h) := by
  unfold f_L_weeks_J102
  refine z_iconst rfl rfl ?_
  refine Z.weak ?_ (t_L_weeks_J103  _ _  _)
  exact wkL_c (wkL_n (wkL_n (wkL_n (wkL_n (wkL_n (wkL_n (wkL_n (wkL_n (wkL_c (wkL_n (wkL_n (wkL_n (wkL_nil _)))))))))))))
set_option maxRecDepth 20000 in
set_option maxHeartbeats 1000000 in
theorem t_L_weeks (x1 : Int) (h : Hp) : Ct M_L_weeks [vr 0, vi x1] h (f_L_weeks x1 h) := by
  refine Ct.mk ok_L_weeks pl_L_weeks rfl rfl ?_
  show Z M_L_weeks 0 0 0 [some (vr 0), some (vi x1), none, none, none, none, none, none, none, none, none, none, none] [] h (f_L_weeks x1 h)
  unfold f_L_weeks
  refine z_aload_n rfl rfl ?_
  refine z_iload_n rfl rfl ?_
  refine z_iconst rfl rfl ?_
  refine z_V2i ko4 mv_L_88 kd_0 (t_X4_ifWeeks _ _ _) rfl rfl rfl rfl rfl rfl (fun r1 h1 => ?_)
  refine z_istore_n rfl rfl ?_
  refine z_aload_n rfl rfl ?_
  refine z_iload_n rfl rfl ?_
  refine z_iconst rfl rfl ?_
  refine z_V2i ko4 mv_L_88 kd_0 (t_X4_ifWeeks _ _ _) rfl rfl rfl rfl rfl rfl (fun r2 h2 => ?_)
  refine z_istore_n rfl rfl ?_
  refine z_aload_n rfl rfl ?_
  refine z_iload_n rfl rfl ?_
  refine z_iconst rfl rfl ?_
  refine z_V2i ko4 mv_L_88 kd_0 (t_X4_ifWeeks _ _ _) rfl rfl rfl rfl rfl rfl (fun r3 h3 => ?_)
  refine z_istore rfl rfl ?_
  refine z_aload_n rfl rfl ?_
  refine z_bipush rfl rfl ?_
  refine z_V1i ko4 mv_L_47 kd_0 (t_X4_count _ _) rfl rfl rfl rfl rfl rfl (fun r4 h4 => ?_)
  refine z_istore rfl rfl ?_
  refine z_aload_n rfl rfl ?_
  refine z_bipush rfl rfl ?_
  refine z_V1i ko4 mv_L_47 kd_0 (t_X4_count _ _) rfl rfl rfl rfl rfl rfl (fun r5 h5 => ?_)
  refine z_istore rfl rfl ?_
  refine z_aload_n rfl rfl ?_
  refine z_bipush rfl rfl ?_
  refine z_V1i ko4 mv_L_47 kd_0 (t_X4_count _ _) rfl rfl rfl rfl rfl rfl (fun r6 h6 => ?_)
  refine z_istore rfl rfl ?_
  refine z_aload_n rfl rfl ?_
  refine z_iconst rfl rfl ?_
  refine z_V1i ko4 mv_L_47 kd_0 (t_X4_count _ _) rfl rfl rfl rfl rfl rfl (fun r7 h7 => ?_)
  refine z_istore rfl rfl ?_
  refine z_aload_n rfl rfl ?_
  refine z_S1l ms_L_91 (t_L_print  _) rfl rfl rfl rfl rfl (fun r8 h8 => ?_)
  refine z_lstoreL rfl rfl (fun y9 => ?_)
  refine z_aload_n rfl rfl ?_
  refine z_iload_n rfl rfl ?_
  refine z_V1i ko4 mv_L_37 kd_0 (t_X4_weeks _ _) rfl rfl rfl rfl rfl rfl (fun r10 h10 => ?_)
  refine z_istore rfl rfl ?_
  refine z_iload rfl rfl ?_
  refine z_if_ge rfl ?_ ?_
  · refine z_iload rfl rfl ?_
    refine z_iload_n rfl rfl ?_
    refine z_icmp_ne rfl ?_ ?_
    · refine Z.up (u2 := 2) (by decide) ?_
      refine Z.weak ?_ (t_L_weeks_J102  _  _)
      exact wkL_c (wkL_n (wkL_n (wkL_n (wkL_n (wkL_n (wkL_n (wkL_n (wkL_n (wkL_c (wkL_n (wkL_n (wkL_n (wkL_nil _)))))))))))))
    · refine z_aload_n rfl rfl ?_
      refine z_bipush rfl rfl ?_
      refine z_V1i ko4 mv_L_47 kd_0 (t_X4_count _ _) rfl rfl rfl rfl rfl rfl (fun r13 h13 => ?_)
      refine z_iload rfl rfl ?_
      refine z_iload_n rfl rfl ?_
      refine z_iadd rfl ?_
      refine z_icmp_ne rfl ?_ ?_
      · refine Z.up (u2 := 2) (by decide) ?_
        refine Z.weak ?_ (t_L_weeks_J102  _  _)
        exact wkL_c (wkL_n (wkL_n (wkL_n (wkL_n (wkL_n (wkL_n (wkL_n (wkL_n (wkL_c (wkL_n (wkL_n (wkL_n (wkL_nil _)))))))))))))
      · refine z_aload_n rfl rfl ?_
        refine z_bipush rfl rfl ?_
        refine z_V1i ko4 mv_L_47 kd_0 (t_X4_count _ _) rfl rfl rfl rfl rfl rfl (fun r14 h14 => ?_)
        refine z_iload rfl rfl ?_
        refine z_iload_n rfl rfl ?_
        refine z_iadd rfl ?_
        refine z_icmp_ne rfl ?_ ?_
        · refine Z.up (u2 := 2) (by decide) ?_
          refine Z.weak ?_ (t_L_weeks_J102  _  _)
          exact wkL_c (wkL_n (wkL_n (wkL_n (wkL_n (wkL_n (wkL_n (wkL_n (wkL_n (wkL_c (wkL_n (wkL_n (wkL_n (wkL_nil _)))))))))))))
        · refine z_aload_n rfl rfl ?_
          refine z_iconst rfl rfl ?_
          refine z_V1i ko4 mv_L_47 kd_0 (t_X4_count _ _) rfl rfl rfl rfl rfl rfl (fun r15 h15 => ?_)
          refine z_iload rfl rfl ?_
          refine z_icmp_ne rfl ?_ ?_
          · refine Z.up (u2 := 2) (by decide) ?_
            refine Z.weak ?_ (t_L_weeks_J102  _  _)
            exact wkL_c (wkL_n (wkL_n (wkL_n (wkL_n (wkL_n (wkL_n (wkL_n (wkL_n (wkL_c (wkL_n (wkL_n (wkL_n (wkL_nil _)))))))))))))
          · refine z_aload_n rfl rfl ?_
            refine z_bipush rfl rfl ?_
            refine z_V1i ko4 mv_L_47 kd_0 (t_X4_count _ _) rfl rfl rfl rfl rfl rfl (fun r16 h16 => ?_)
            refine z_iload rfl rfl ?_
            refine z_iload_n rfl rfl ?_
            refine z_aload_n rfl rfl ?_
            refine z_bipush rfl rfl ?_
            refine z_V1i ko4 mv_L_47 kd_0 (t_X4_count _ _) rfl rfl rfl rfl rfl rfl (fun r17 h17 => ?_)
            refine z_imul rfl ?_
            refine z_iadd rfl ?_
            refine z_icmp_ne rfl ?_ ?_
            · refine Z.up (u2 := 2) (by decide) ?_
              refine Z.weak ?_ (t_L_weeks_J102  _  _)
              exact wkL_c (wkL_n (wkL_n (wkL_n (wkL_n (wkL_n (wkL_n (wkL_n (wkL_n (wkL_c (wkL_n (wkL_n (wkL_n (wkL_nil _)))))))))))))
            · refine z_aload_n rfl rfl ?_
              refine z_iconst rfl rfl ?_
              refine z_V1i ko4 mv_L_47 kd_0 (t_X4_count _ _) rfl rfl rfl rfl rfl rfl (fun r18 h18 => ?_)
              refine z_iload rfl rfl ?_
              refine z_iload_n rfl rfl ?_
              refine z_iadd rfl ?_
              refine z_icmp_ne rfl ?_ ?_
              · refine Z.up (u2 := 2) (by decide) ?_
                refine Z.weak ?_ (t_L_weeks_J102  _  _)
                exact wkL_c (wkL_n (wkL_n (wkL_n (wkL_n (wkL_n (wkL_n (wkL_n (wkL_n (wkL_c (wkL_n (wkL_n (wkL_n (wkL_nil _)))))))))))))
              · refine z_aload_n rfl rfl ?_
                refine z_S1i ms_L_96 (t_L_hangs  _) rfl rfl rfl rfl rfl (fun r19 h19 => ?_)
                refine z_if_eq rfl ?_ ?_
                · refine Z.weak ?_ (t_L_weeks_J102  _  _)
                  exact wkL_c (wkL_n (wkL_n (wkL_n (wkL_n (wkL_n (wkL_n (wkL_n (wkL_n (wkL_c (wkL_n (wkL_n (wkL_n (wkL_nil _)))))))))))))
                · refine z_iconst rfl rfl ?_
                  refine z_goto rfl ?_
                  refine Z.weak ?_ (t_L_weeks_J103  _ _  _)
                  exact wkL_c (wkL_n (wkL_n (wkL_n (wkL_n (wkL_n (wkL_n (wkL_n (wkL_n (wkL_c (wkL_n (wkL_n (wkL_n (wkL_nil _)))))))))))))
  · refine z_iload rfl rfl ?_
    refine z_ldc rfl cst_L_95 rfl ?_
    refine z_icmp_ne rfl ?_ ?_
    · refine z_iconst rfl rfl ?_
      exact z_zret0 rfl rfl
    · refine z_iload rfl rfl ?_
      refine z_iload_n rfl rfl ?_
      refine z_iadd rfl ?_
      refine z_sipush rfl rfl ?_
      refine z_icmp_le rfl ?_ ?_
      · refine z_iconst rfl rfl ?_
        exact z_zret0 rfl rfl
      · refine z_aload_n rfl rfl ?_
        refine z_S1l ms_L_91 (t_L_print  _) rfl rfl rfl rfl rfl (fun r20 h20 => ?_)
        refine z_lload rfl rfl ?_
        refine z_lcmp rfl ?_
        refine z_if_ne rfl ?_ ?_
        · refine z_iconst rfl rfl ?_
          exact z_zret0 rfl rfl
        · refine z_iconst rfl rfl ?_
          refine z_goto rfl ?_
          exact z_zret1 rfl rfl
