/-! printed by wip/gen/gen26.py: the bytecode does what the functions say -/
set_option maxRecDepth 20000 in
set_option maxHeartbeats 1000000 in
theorem t_L_stable_L16 (x1 : Int) (x2 : Int) (c35 : Hp → Option (Int × Hp)) (hc35 : ∀ (h : Hp), Z M_L_stable 2 2 35 [some (vr 0), some (vi x1), some (vi x2), some (vr 76), some (vr 77), none, none, none, none, none, none, none, none, none, none] [] h (c35  h)) : ∀ (n : Nat) (x5 : Int) (h : Hp), Z M_L_stable 2 2 16 [some (vr 0), some (vi x1), some (vi x2), some (vr 76), some (vr 77), some (vi x5), none, none, none, none, none, none, none, none, none] [] h (f_L_stable_L16 x1 x2 c35 n x5 h) := by
  intro n
  induction n with
  | zero => intro x5 h; exact Z.nix
  | succ n ih =>
    intro x5 h
    rw [f_L_stable_L16_s]
    refine z_iload rfl rfl ?_
    refine z_iload_n rfl rfl ?_
    refine z_icmp_ge rfl ?_ ?_
    · refine Z.weak ?_ (hc35 _)
      exact wkL_c (wkL_c (wkL_c (wkL_c (wkL_c (wkL_n (wkL_n (wkL_n (wkL_n (wkL_n (wkL_n (wkL_n (wkL_n (wkL_n (wkL_n (wkL_nil _)))))))))))))))
    · refine z_aload_n rfl rfl ?_
      refine z_iload rfl rfl ?_
      refine z_aload_n rfl rfl ?_
      refine z_iload rfl rfl ?_
      refine z_iconst rfl rfl ?_
      refine z_V2i ko4 mv_L_50 kd_0 (t_X4_umbrella _ _ _) rfl rfl rfl rfl rfl rfl (fun r5 h5 => ?_)
      refine z_iastoreWL kd_76 rfl (fun h6 => ?_)
      refine z_aload rfl rfl ?_
      refine z_iload rfl rfl ?_
      refine z_aload_n rfl rfl ?_
      refine z_iload rfl rfl ?_
      refine z_bipush rfl rfl ?_
      refine z_V2i ko4 mv_L_50 kd_0 (t_X4_umbrella _ _ _) rfl rfl rfl rfl rfl rfl (fun r7 h7 => ?_)
      refine z_iastoreWL kd_77 rfl (fun h8 => ?_)
      refine z_iinc rfl rfl rfl ?_
      refine z_goto rfl ?_
      refine Z.weak ?_ (ih _ _)
      exact wkL_c (wkL_c (wkL_c (wkL_c (wkL_c (wkL_c (wkL_n (wkL_n (wkL_n (wkL_n (wkL_n (wkL_n (wkL_n (wkL_n (wkL_n (wkL_nil _)))))))))))))))
set_option maxRecDepth 20000 in
set_option maxHeartbeats 1000000 in
theorem t_L_stable_L76 (x1 : Int) (x2 : Int) (x5 : Int) (x6 : Int) (x7 : Int) (x8 : Int) (x9 : Int) (x10 : Int) (c101 : Int → Hp → Option (Int × Hp)) (hc101 : ∀ (y11 : Int) (h : Hp), Z M_L_stable 2 2 101 [some (vr 0), some (vi x1), some (vi x2), some (vr 76), some (vr 77), some (vi x5), some (vi x6), some (vi x7), some (vi x8), some (vi x9), some (vi x10), some (vi y11), none, none, none] [] h (c101 y11 h)) : ∀ (n : Nat) (x11 : Int) (x12 : Int) (h : Hp), Z M_L_stable 2 2 76 [some (vr 0), some (vi x1), some (vi x2), some (vr 76), some (vr 77), some (vi x5), some (vi x6), some (vi x7), some (vi x8), some (vi x9), some (vi x10), some (vi x11), some (vi x12), none, none] [] h (f_L_stable_L76 x1 x2 x5 x6 x7 x8 x9 x10 c101 n x11 x12 h) := by
  intro n
  induction n with
  | zero => intro x11 x12 h; exact Z.nix
  | succ n ih =>
    intro x11 x12 h
    rw [f_L_stable_L76_s]
    refine z_iload rfl rfl ?_
    refine z_iconst rfl rfl ?_
    refine z_icmp_ge rfl ?_ ?_
    · refine Z.weak ?_ (hc101 _ _)
      exact wkL_c (wkL_c (wkL_c (wkL_c (wkL_c (wkL_c (wkL_c (wkL_c (wkL_c (wkL_c (wkL_c (wkL_c (wkL_n (wkL_n (wkL_n (wkL_nil _)))))))))))))))
    · refine z_iload rfl rfl ?_
      refine z_aload_n rfl rfl ?_
      refine z_iload rfl rfl ?_
      refine z_iload rfl rfl ?_
      refine z_V2i ko4 mv_L_56 kd_0 (t_X4_claimOf _ _ _) rfl rfl rfl rfl rfl rfl (fun r17 h17 => ?_)
      refine z_if_lt rfl ?_ ?_
      · refine z_iconst rfl rfl ?_
        refine z_iadd rfl ?_
        refine z_istoreL rfl rfl (fun y18 => ?_)
        refine z_iinc rfl rfl rfl ?_
        refine z_goto rfl ?_
        refine Z.weak ?_ (ih _ _ _)
        exact wkL_c (wkL_c (wkL_c (wkL_c (wkL_c (wkL_c (wkL_c (wkL_c (wkL_c (wkL_c (wkL_c (wkL_c (wkL_c (wkL_n (wkL_n (wkL_nil _)))))))))))))))
      · refine z_aload_n rfl rfl ?_
        refine z_iload rfl rfl ?_
        refine z_iload rfl rfl ?_
        refine z_V2i ko4 mv_L_56 kd_0 (t_X4_claimOf _ _ _) rfl rfl rfl rfl rfl rfl (fun r19 h19 => ?_)
        refine z_aload_n rfl rfl ?_
        refine z_iload rfl rfl ?_
        refine z_iload rfl rfl ?_
        refine z_V2i ko4 mv_L_50 kd_0 (t_X4_umbrella _ _ _) rfl rfl rfl rfl rfl rfl (fun r20 h20 => ?_)
        refine z_icmp_eq rfl ?_ ?_
        · refine z_iconst rfl rfl ?_
          refine z_iadd rfl ?_
          refine z_istoreL rfl rfl (fun y21 => ?_)
          refine z_iinc rfl rfl rfl ?_
          refine z_goto rfl ?_
          refine Z.weak ?_ (ih _ _ _)
          exact wkL_c (wkL_c (wkL_c (wkL_c (wkL_c (wkL_c (wkL_c (wkL_c (wkL_c (wkL_c (wkL_c (wkL_c (wkL_c (wkL_n (wkL_n (wkL_nil _)))))))))))))))
        · refine z_iconst rfl rfl ?_
          refine z_goto rfl ?_
          refine z_iadd rfl ?_
          refine z_istoreL rfl rfl (fun y22 => ?_)
          refine z_iinc rfl rfl rfl ?_
          refine z_goto rfl ?_
          refine Z.weak ?_ (ih _ _ _)
          exact wkL_c (wkL_c (wkL_c (wkL_c (wkL_c (wkL_c (wkL_c (wkL_c (wkL_c (wkL_c (wkL_c (wkL_c (wkL_c (wkL_n (wkL_n (wkL_nil _)))))))))))))))
set_option maxRecDepth 20000 in
set_option maxHeartbeats 1000000 in
theorem t_L_stable_J199 (c48 : Int → Hp → Option (Int × Hp)) (x1 : Int) (x2 : Int) (x5 : Int) (x6 : Int) (x7 : Int) (x13 : Int) (x14 : Int) (hc48 : ∀ (y6 : Int) (h : Hp), Z M_L_stable 2 2 48 [some (vr 0), some (vi x1), some (vi x2), some (vr 76), some (vr 77), some (vi x5), some (vi y6), none, none, none, none, none, none, none, none] [] h (c48 y6 h)) (h : Hp) : Z M_L_stable 2 2 199 [some (vr 0), some (vi x1), some (vi x2), some (vr 76), some (vr 77), some (vi x5), some (vi x6), some (vi x7), none, none, none, none, none, some (vi x13), some (vi x14)] [] h (f_L_stable_J199 c48 x1 x2 x5 x6 x7 x13 x14 h) := by
  unfold f_L_stable_J199
  refine z_iload rfl rfl ?_
  refine z_iconst rfl rfl ?_
  refine z_icmp_ne rfl ?_ ?_
  · refine z_iinc rfl rfl rfl ?_
    refine z_goto rfl ?_
    refine Z.weak ?_ (hc48 _ _)
    exact wkL_c (wkL_c (wkL_c (wkL_c (wkL_c (wkL_c (wkL_c (wkL_n (wkL_n (wkL_n (wkL_n (wkL_n (wkL_n (wkL_n (wkL_n (wkL_nil _)))))))))))))))
  · refine z_iload rfl rfl ?_
    refine z_if_ne rfl ?_ ?_
    · refine z_iconst rfl rfl ?_
      exact z_zret0 rfl rfl
    · refine z_iload rfl rfl ?_
      refine z_if_ne rfl ?_ ?_
      · refine z_iinc rfl rfl rfl ?_
        refine z_goto rfl ?_
        refine Z.weak ?_ (hc48 _ _)
        exact wkL_c (wkL_c (wkL_c (wkL_c (wkL_c (wkL_c (wkL_c (wkL_n (wkL_n (wkL_n (wkL_n (wkL_n (wkL_n (wkL_n (wkL_n (wkL_nil _)))))))))))))))
      · refine z_iconst rfl rfl ?_
        exact z_zret0 rfl rfl
set_option maxRecDepth 20000 in
set_option maxHeartbeats 1000000 in
theorem t_L_stable_J192 (c48 : Int → Hp → Option (Int × Hp)) (x1 : Int) (x2 : Int) (x5 : Int) (x6 : Int) (x7 : Int) (x12 : Int) (x13 : Int) (x14 : Int) (s0 : Int) (hc48 : ∀ (y6 : Int) (h : Hp), Z M_L_stable 2 2 48 [some (vr 0), some (vi x1), some (vi x2), some (vr 76), some (vr 77), some (vi x5), some (vi y6), none, none, none, none, none, none, none, none] [] h (c48 y6 h)) (h : Hp) : Z M_L_stable 2 2 192 [some (vr 0), some (vi x1), some (vi x2), some (vr 76), some (vr 77), some (vi x5), some (vi x6), some (vi x7), none, none, none, none, some (vi x12), some (vi x13), some (vi x14)] [vi s0] h (f_L_stable_J192 c48 x1 x2 x5 x6 x7 x12 x13 x14 s0 h) := by
  unfold f_L_stable_J192
  refine z_iload rfl rfl ?_
  refine z_icmp_eq rfl ?_ ?_
  · refine z_iconst rfl rfl ?_
    exact z_zret0 rfl rfl
  · refine z_iload rfl rfl ?_
    refine z_iconst rfl rfl ?_
    refine z_icmp_ne rfl ?_ ?_
    · refine Z.weak ?_ (t_L_stable_J199  _ _ _ _ _ _ _ _ hc48 _)
      exact wkL_c (wkL_c (wkL_c (wkL_c (wkL_c (wkL_c (wkL_c (wkL_c (wkL_n (wkL_n (wkL_n (wkL_n (wkL_n (wkL_c (wkL_c (wkL_nil _)))))))))))))))
    · refine z_iload rfl rfl ?_
      refine z_if_eq rfl ?_ ?_
      · refine z_iconst rfl rfl ?_
        exact z_zret0 rfl rfl
      · refine Z.weak ?_ (t_L_stable_J199  _ _ _ _ _ _ _ _ hc48 _)
        exact wkL_c (wkL_c (wkL_c (wkL_c (wkL_c (wkL_c (wkL_c (wkL_c (wkL_n (wkL_n (wkL_n (wkL_n (wkL_n (wkL_c (wkL_c (wkL_nil _)))))))))))))))
set_option maxRecDepth 20000 in
set_option maxHeartbeats 1000000 in
theorem t_L_stable_J189 (c48 : Int → Hp → Option (Int × Hp)) (x1 : Int) (x2 : Int) (x5 : Int) (x6 : Int) (x7 : Int) (x12 : Int) (x13 : Int) (x14 : Int) (hc48 : ∀ (y6 : Int) (h : Hp), Z M_L_stable 2 2 48 [some (vr 0), some (vi x1), some (vi x2), some (vr 76), some (vr 77), some (vi x5), some (vi y6), none, none, none, none, none, none, none, none] [] h (c48 y6 h)) (h : Hp) : Z M_L_stable 2 2 189 [some (vr 0), some (vi x1), some (vi x2), some (vr 76), some (vr 77), some (vi x5), some (vi x6), some (vi x7), none, none, none, none, some (vi x12), some (vi x13), some (vi x14)] [] h (f_L_stable_J189 c48 x1 x2 x5 x6 x7 x12 x13 x14 h) := by
  unfold f_L_stable_J189
  refine z_iconst rfl rfl ?_
  refine z_goto rfl ?_
  refine Z.weak ?_ (t_L_stable_J192  _ _ _ _ _ _ _ _ _ _ hc48 _)
  exact wkL_c (wkL_c (wkL_c (wkL_c (wkL_c (wkL_c (wkL_c (wkL_c (wkL_n (wkL_n (wkL_n (wkL_n (wkL_c (wkL_c (wkL_c (wkL_nil _)))))))))))))))
set_option maxRecDepth 20000 in
set_option maxHeartbeats 1000000 in
theorem t_L_stable_J182 (c48 : Int → Hp → Option (Int × Hp)) (x1 : Int) (x2 : Int) (x5 : Int) (x6 : Int) (x7 : Int) (x12 : Int) (x13 : Int) (x14 : Int) (s0 : Int) (s1 : Int) (hc48 : ∀ (y6 : Int) (h : Hp), Z M_L_stable 2 2 48 [some (vr 0), some (vi x1), some (vi x2), some (vr 76), some (vr 77), some (vi x5), some (vi y6), none, none, none, none, none, none, none, none] [] h (c48 y6 h)) (h : Hp) : Z M_L_stable 2 2 182 [some (vr 0), some (vi x1), some (vi x2), some (vr 76), some (vr 77), some (vi x5), some (vi x6), some (vi x7), none, none, none, none, some (vi x12), some (vi x13), some (vi x14)] [vi s1, vi s0] h (f_L_stable_J182 c48 x1 x2 x5 x6 x7 x12 x13 x14 s0 s1 h) := by
  unfold f_L_stable_J182
  refine z_icmp_ne rfl ?_ ?_
  · refine z_iconst rfl rfl ?_
    exact z_zret0 rfl rfl
  · refine z_iload rfl rfl ?_
    refine z_iconst rfl rfl ?_
    refine z_icmp_eq rfl ?_ ?_
    · refine Z.weak ?_ (t_L_stable_J189  _ _ _ _ _ _ _ _ _ hc48 _)
      exact wkL_c (wkL_c (wkL_c (wkL_c (wkL_c (wkL_c (wkL_c (wkL_c (wkL_n (wkL_n (wkL_n (wkL_n (wkL_c (wkL_c (wkL_c (wkL_nil _)))))))))))))))
    · refine z_iload rfl rfl ?_
      refine z_iconst rfl rfl ?_
      refine z_icmp_ne rfl ?_ ?_
      · refine z_iconst rfl rfl ?_
        refine Z.weak ?_ (t_L_stable_J192  _ _ _ _ _ _ _ _ _ _ hc48 _)
        exact wkL_c (wkL_c (wkL_c (wkL_c (wkL_c (wkL_c (wkL_c (wkL_c (wkL_n (wkL_n (wkL_n (wkL_n (wkL_c (wkL_c (wkL_c (wkL_nil _)))))))))))))))
      · refine Z.weak ?_ (t_L_stable_J189  _ _ _ _ _ _ _ _ _ hc48 _)
        exact wkL_c (wkL_c (wkL_c (wkL_c (wkL_c (wkL_c (wkL_c (wkL_c (wkL_n (wkL_n (wkL_n (wkL_n (wkL_c (wkL_c (wkL_c (wkL_nil _)))))))))))))))
set_option maxRecDepth 20000 in
set_option maxHeartbeats 1000000 in
theorem t_L_stable_J181 (c48 : Int → Hp → Option (Int × Hp)) (x1 : Int) (x2 : Int) (x5 : Int) (x6 : Int) (x7 : Int) (x12 : Int) (x13 : Int) (x14 : Int) (s0 : Int) (hc48 : ∀ (y6 : Int) (h : Hp), Z M_L_stable 2 2 48 [some (vr 0), some (vi x1), some (vi x2), some (vr 76), some (vr 77), some (vi x5), some (vi y6), none, none, none, none, none, none, none, none] [] h (c48 y6 h)) (h : Hp) : Z M_L_stable 2 2 181 [some (vr 0), some (vi x1), some (vi x2), some (vr 76), some (vr 77), some (vi x5), some (vi x6), some (vi x7), none, none, none, none, some (vi x12), some (vi x13), some (vi x14)] [vi s0] h (f_L_stable_J181 c48 x1 x2 x5 x6 x7 x12 x13 x14 s0 h) := by
  unfold f_L_stable_J181
  refine z_iconst rfl rfl ?_
  refine Z.weak ?_ (t_L_stable_J182  _ _ _ _ _ _ _ _ _ _ _ hc48 _)
  exact wkL_c (wkL_c (wkL_c (wkL_c (wkL_c (wkL_c (wkL_c (wkL_c (wkL_n (wkL_n (wkL_n (wkL_n (wkL_c (wkL_c (wkL_c (wkL_nil _)))))))))))))))
set_option maxRecDepth 20000 in
set_option maxHeartbeats 1000000 in
theorem t_L_stable_J171 (c48 : Int → Hp → Option (Int × Hp)) (x1 : Int) (x2 : Int) (x5 : Int) (x6 : Int) (x7 : Int) (x9 : Int) (x11 : Int) (x12 : Int) (x13 : Int) (x14 : Int) (s0 : Int) (hc48 : ∀ (y6 : Int) (h : Hp), Z M_L_stable 2 2 48 [some (vr 0), some (vi x1), some (vi x2), some (vr 76), some (vr 77), some (vi x5), some (vi y6), none, none, none, none, none, none, none, none] [] h (c48 y6 h)) (h : Hp) : Z M_L_stable 2 2 171 [some (vr 0), some (vi x1), some (vi x2), some (vr 76), some (vr 77), some (vi x5), some (vi x6), some (vi x7), none, some (vi x9), none, some (vi x11), some (vi x12), some (vi x13), some (vi x14)] [vi s0] h (f_L_stable_J171 c48 x1 x2 x5 x6 x7 x9 x11 x12 x13 x14 s0 h) := by
  unfold f_L_stable_J171
  refine z_iload rfl rfl ?_
  refine z_iload rfl rfl ?_
  refine z_icmp_eq rfl ?_ ?_
  · refine Z.weak ?_ (t_L_stable_J181  _ _ _ _ _ _ _ _ _ _ hc48 _)
    exact wkL_c (wkL_c (wkL_c (wkL_c (wkL_c (wkL_c (wkL_c (wkL_c (wkL_n (wkL_n (wkL_n (wkL_n (wkL_c (wkL_c (wkL_c (wkL_nil _)))))))))))))))
  · refine z_iload rfl rfl ?_
    refine z_aload_n rfl rfl ?_
    refine z_bipush rfl rfl ?_
    refine z_V1i ko4 mv_L_47 kd_0 (t_X4_count _ _) rfl rfl rfl rfl rfl rfl (fun r26 h26 => ?_)
    refine z_icmp_le rfl ?_ ?_
    · refine Z.weak ?_ (t_L_stable_J181  _ _ _ _ _ _ _ _ _ _ hc48 _)
      exact wkL_c (wkL_c (wkL_c (wkL_c (wkL_c (wkL_c (wkL_c (wkL_c (wkL_n (wkL_n (wkL_n (wkL_n (wkL_c (wkL_c (wkL_c (wkL_nil _)))))))))))))))
    · refine z_iconst rfl rfl ?_
      refine z_goto rfl ?_
      refine Z.weak ?_ (t_L_stable_J182  _ _ _ _ _ _ _ _ _ _ _ hc48 _)
      exact wkL_c (wkL_c (wkL_c (wkL_c (wkL_c (wkL_c (wkL_c (wkL_c (wkL_n (wkL_n (wkL_n (wkL_n (wkL_c (wkL_c (wkL_c (wkL_nil _)))))))))))))))
set_option maxRecDepth 20000 in
set_option maxHeartbeats 1000000 in
theorem t_L_stable_J164 (c48 : Int → Hp → Option (Int × Hp)) (x1 : Int) (x2 : Int) (x5 : Int) (x6 : Int) (x7 : Int) (x9 : Int) (x11 : Int) (x12 : Int) (x13 : Int) (x14 : Int) (s0 : Int) (s1 : Int) (hc48 : ∀ (y6 : Int) (h : Hp), Z M_L_stable 2 2 48 [some (vr 0), some (vi x1), some (vi x2), some (vr 76), some (vr 77), some (vi x5), some (vi y6), none, none, none, none, none, none, none, none] [] h (c48 y6 h)) (h : Hp) : Z M_L_stable 2 2 164 [some (vr 0), some (vi x1), some (vi x2), some (vr 76), some (vr 77), some (vi x5), some (vi x6), some (vi x7), none, some (vi x9), none, some (vi x11), some (vi x12), some (vi x13), some (vi x14)] [vi s1, vi s0] h (f_L_stable_J164 c48 x1 x2 x5 x6 x7 x9 x11 x12 x13 x14 s0 s1 h) := by
  unfold f_L_stable_J164
  refine z_icmp_ne rfl ?_ ?_
  · refine z_iconst rfl rfl ?_
    exact z_zret0 rfl rfl
  · refine z_iload rfl rfl ?_
    refine z_iconst rfl rfl ?_
    refine z_icmp_ne rfl ?_ ?_
    · refine z_iconst rfl rfl ?_
      refine Z.weak ?_ (t_L_stable_J171  _ _ _ _ _ _ _ _ _ _ _ _ hc48 _)
      exact wkL_c (wkL_c (wkL_c (wkL_c (wkL_c (wkL_c (wkL_c (wkL_c (wkL_n (wkL_c (wkL_n (wkL_c (wkL_c (wkL_c (wkL_c (wkL_nil _)))))))))))))))
    · refine z_iconst rfl rfl ?_
      refine z_goto rfl ?_
      refine Z.weak ?_ (t_L_stable_J171  _ _ _ _ _ _ _ _ _ _ _ _ hc48 _)
      exact wkL_c (wkL_c (wkL_c (wkL_c (wkL_c (wkL_c (wkL_c (wkL_c (wkL_n (wkL_c (wkL_n (wkL_c (wkL_c (wkL_c (wkL_c (wkL_nil _)))))))))))))))
set_option maxRecDepth 20000 in
set_option maxHeartbeats 1000000 in
theorem t_L_stable_J158 (c48 : Int → Hp → Option (Int × Hp)) (x1 : Int) (x2 : Int) (x5 : Int) (x6 : Int) (x7 : Int) (x9 : Int) (x11 : Int) (x12 : Int) (x13 : Int) (x14 : Int) (s0 : Int) (hc48 : ∀ (y6 : Int) (h : Hp), Z M_L_stable 2 2 48 [some (vr 0), some (vi x1), some (vi x2), some (vr 76), some (vr 77), some (vi x5), some (vi y6), none, none, none, none, none, none, none, none] [] h (c48 y6 h)) (h : Hp) : Z M_L_stable 2 2 158 [some (vr 0), some (vi x1), some (vi x2), some (vr 76), some (vr 77), some (vi x5), some (vi x6), some (vi x7), none, some (vi x9), none, some (vi x11), some (vi x12), some (vi x13), some (vi x14)] [vi s0] h (f_L_stable_J158 c48 x1 x2 x5 x6 x7 x9 x11 x12 x13 x14 s0 h) := by
  unfold f_L_stable_J158
  refine z_iload rfl rfl ?_
  refine z_iload rfl rfl ?_
  refine z_icmp_ne rfl ?_ ?_
  · refine z_iconst rfl rfl ?_
    refine Z.weak ?_ (t_L_stable_J164  _ _ _ _ _ _ _ _ _ _ _ _ _ hc48 _)
    exact wkL_c (wkL_c (wkL_c (wkL_c (wkL_c (wkL_c (wkL_c (wkL_c (wkL_n (wkL_c (wkL_n (wkL_c (wkL_c (wkL_c (wkL_c (wkL_nil _)))))))))))))))
  · refine z_iconst rfl rfl ?_
    refine z_goto rfl ?_
    refine Z.weak ?_ (t_L_stable_J164  _ _ _ _ _ _ _ _ _ _ _ _ _ hc48 _)
    exact wkL_c (wkL_c (wkL_c (wkL_c (wkL_c (wkL_c (wkL_c (wkL_c (wkL_n (wkL_c (wkL_n (wkL_c (wkL_c (wkL_c (wkL_c (wkL_nil _)))))))))))))))
set_option maxRecDepth 20000 in
set_option maxHeartbeats 1000000 in
theorem t_L_stable_J152 (c48 : Int → Hp → Option (Int × Hp)) (x1 : Int) (x2 : Int) (x5 : Int) (x6 : Int) (x7 : Int) (x9 : Int) (x11 : Int) (x12 : Int) (x13 : Int) (s0 : Int) (hc48 : ∀ (y6 : Int) (h : Hp), Z M_L_stable 2 2 48 [some (vr 0), some (vi x1), some (vi x2), some (vr 76), some (vr 77), some (vi x5), some (vi y6), none, none, none, none, none, none, none, none] [] h (c48 y6 h)) (h : Hp) : Z M_L_stable 2 2 152 [some (vr 0), some (vi x1), some (vi x2), some (vr 76), some (vr 77), some (vi x5), some (vi x6), some (vi x7), none, some (vi x9), none, some (vi x11), some (vi x12), some (vi x13), none] [vi s0] h (f_L_stable_J152 c48 x1 x2 x5 x6 x7 x9 x11 x12 x13 s0 h) := by
  unfold f_L_stable_J152
  refine z_istore rfl rfl ?_
  refine z_iload rfl rfl ?_
  refine z_if_ne rfl ?_ ?_
  · refine z_iconst rfl rfl ?_
    refine Z.weak ?_ (t_L_stable_J158  _ _ _ _ _ _ _ _ _ _ _ _ hc48 _)
    exact wkL_c (wkL_c (wkL_c (wkL_c (wkL_c (wkL_c (wkL_c (wkL_c (wkL_n (wkL_c (wkL_n (wkL_c (wkL_c (wkL_c (wkL_c (wkL_nil _)))))))))))))))
  · refine z_iconst rfl rfl ?_
    refine z_goto rfl ?_
    refine Z.weak ?_ (t_L_stable_J158  _ _ _ _ _ _ _ _ _ _ _ _ hc48 _)
    exact wkL_c (wkL_c (wkL_c (wkL_c (wkL_c (wkL_c (wkL_c (wkL_c (wkL_n (wkL_c (wkL_n (wkL_c (wkL_c (wkL_c (wkL_c (wkL_nil _)))))))))))))))
set_option maxRecDepth 20000 in
set_option maxHeartbeats 1000000 in
theorem t_L_stable_J151 (c48 : Int → Hp → Option (Int × Hp)) (x1 : Int) (x2 : Int) (x5 : Int) (x6 : Int) (x7 : Int) (x9 : Int) (x11 : Int) (x12 : Int) (x13 : Int) (hc48 : ∀ (y6 : Int) (h : Hp), Z M_L_stable 2 2 48 [some (vr 0), some (vi x1), some (vi x2), some (vr 76), some (vr 77), some (vi x5), some (vi y6), none, none, none, none, none, none, none, none] [] h (c48 y6 h)) (h : Hp) : Z M_L_stable 2 2 151 [some (vr 0), some (vi x1), some (vi x2), some (vr 76), some (vr 77), some (vi x5), some (vi x6), some (vi x7), none, some (vi x9), none, some (vi x11), some (vi x12), some (vi x13), none] [] h (f_L_stable_J151 c48 x1 x2 x5 x6 x7 x9 x11 x12 x13 h) := by
  unfold f_L_stable_J151
  refine z_iconst rfl rfl ?_
  refine Z.weak ?_ (t_L_stable_J152  _ _ _ _ _ _ _ _ _ _ _ hc48 _)
  exact wkL_c (wkL_c (wkL_c (wkL_c (wkL_c (wkL_c (wkL_c (wkL_c (wkL_n (wkL_c (wkL_n (wkL_c (wkL_c (wkL_c (wkL_n (wkL_nil _)))))))))))))))
set_option maxRecDepth 20000 in
set_option maxHeartbeats 1000000 in
theorem t_L_stable_J149 (c48 : Int → Hp → Option (Int × Hp)) (x1 : Int) (x2 : Int) (x5 : Int) (x6 : Int) (x7 : Int) (x9 : Int) (x11 : Int) (x12 : Int) (x13 : Int) (hc48 : ∀ (y6 : Int) (h : Hp), Z M_L_stable 2 2 48 [some (vr 0), some (vi x1), some (vi x2), some (vr 76), some (vr 77), some (vi x5), some (vi y6), none, none, none, none, none, none, none, none] [] h (c48 y6 h)) (h : Hp) : Z M_L_stable 2 2 149 [some (vr 0), some (vi x1), some (vi x2), some (vr 76), some (vr 77), some (vi x5), some (vi x6), some (vi x7), none, some (vi x9), none, some (vi x11), some (vi x12), some (vi x13), none] [] h (f_L_stable_J149 c48 x1 x2 x5 x6 x7 x9 x11 x12 x13 h) := by
  unfold f_L_stable_J149
  refine z_iconst rfl rfl ?_
  refine z_goto rfl ?_
  refine Z.weak ?_ (t_L_stable_J152  _ _ _ _ _ _ _ _ _ _ _ hc48 _)
  exact wkL_c (wkL_c (wkL_c (wkL_c (wkL_c (wkL_c (wkL_c (wkL_c (wkL_n (wkL_c (wkL_n (wkL_c (wkL_c (wkL_c (wkL_n (wkL_nil _)))))))))))))))
set_option maxRecDepth 20000 in
set_option maxHeartbeats 1000000 in
theorem t_L_stable_J133 (c48 : Int → Hp → Option (Int × Hp)) (x1 : Int) (x2 : Int) (x5 : Int) (x6 : Int) (x7 : Int) (x8 : Int) (x9 : Int) (x10 : Int) (x11 : Int) (x12 : Int) (s0 : Int) (hc48 : ∀ (y6 : Int) (h : Hp), Z M_L_stable 2 2 48 [some (vr 0), some (vi x1), some (vi x2), some (vr 76), some (vr 77), some (vi x5), some (vi y6), none, none, none, none, none, none, none, none] [] h (c48 y6 h)) (h : Hp) : Z M_L_stable 2 2 133 [some (vr 0), some (vi x1), some (vi x2), some (vr 76), some (vr 77), some (vi x5), some (vi x6), some (vi x7), some (vi x8), some (vi x9), some (vi x10), some (vi x11), some (vi x12), none, none] [vi s0] h (f_L_stable_J133 c48 x1 x2 x5 x6 x7 x8 x9 x10 x11 x12 s0 h) := by
  unfold f_L_stable_J133
  refine z_istore rfl rfl ?_
  refine z_iload rfl rfl ?_
  refine z_if_lt rfl ?_ ?_
  · refine Z.weak ?_ (t_L_stable_J151  _ _ _ _ _ _ _ _ _ _ hc48 _)
    exact wkL_c (wkL_c (wkL_c (wkL_c (wkL_c (wkL_c (wkL_c (wkL_c (wkL_n (wkL_c (wkL_n (wkL_c (wkL_c (wkL_c (wkL_n (wkL_nil _)))))))))))))))
  · refine z_aload rfl rfl ?_
    refine z_iload rfl rfl ?_
    refine z_ialoadW rfl kd_77 ?_
    refine z_iload rfl rfl ?_
    refine z_icmp_gt rfl ?_ ?_
    · refine Z.weak ?_ (t_L_stable_J149  _ _ _ _ _ _ _ _ _ _ hc48 _)
      exact wkL_c (wkL_c (wkL_c (wkL_c (wkL_c (wkL_c (wkL_c (wkL_c (wkL_n (wkL_c (wkL_n (wkL_c (wkL_c (wkL_c (wkL_n (wkL_nil _)))))))))))))))
    · refine z_aload rfl rfl ?_
      refine z_iload rfl rfl ?_
      refine z_ialoadW rfl kd_77 ?_
      refine z_iload rfl rfl ?_
      refine z_icmp_ne rfl ?_ ?_
      · refine Z.weak ?_ (t_L_stable_J151  _ _ _ _ _ _ _ _ _ _ hc48 _)
        exact wkL_c (wkL_c (wkL_c (wkL_c (wkL_c (wkL_c (wkL_c (wkL_c (wkL_n (wkL_c (wkL_n (wkL_c (wkL_c (wkL_c (wkL_n (wkL_nil _)))))))))))))))
      · refine z_iload rfl rfl ?_
        refine z_iload rfl rfl ?_
        refine z_icmp_ge rfl ?_ ?_
        · refine Z.weak ?_ (t_L_stable_J151  _ _ _ _ _ _ _ _ _ _ hc48 _)
          exact wkL_c (wkL_c (wkL_c (wkL_c (wkL_c (wkL_c (wkL_c (wkL_c (wkL_n (wkL_c (wkL_n (wkL_c (wkL_c (wkL_c (wkL_n (wkL_nil _)))))))))))))))
        · refine Z.weak ?_ (t_L_stable_J149  _ _ _ _ _ _ _ _ _ _ hc48 _)
          exact wkL_c (wkL_c (wkL_c (wkL_c (wkL_c (wkL_c (wkL_c (wkL_c (wkL_n (wkL_c (wkL_n (wkL_c (wkL_c (wkL_c (wkL_n (wkL_nil _)))))))))))))))
set_option maxRecDepth 20000 in
set_option maxHeartbeats 1000000 in
theorem t_L_stable_J132 (c48 : Int → Hp → Option (Int × Hp)) (x1 : Int) (x2 : Int) (x5 : Int) (x6 : Int) (x7 : Int) (x8 : Int) (x9 : Int) (x10 : Int) (x11 : Int) (x12 : Int) (hc48 : ∀ (y6 : Int) (h : Hp), Z M_L_stable 2 2 48 [some (vr 0), some (vi x1), some (vi x2), some (vr 76), some (vr 77), some (vi x5), some (vi y6), none, none, none, none, none, none, none, none] [] h (c48 y6 h)) (h : Hp) : Z M_L_stable 2 2 132 [some (vr 0), some (vi x1), some (vi x2), some (vr 76), some (vr 77), some (vi x5), some (vi x6), some (vi x7), some (vi x8), some (vi x9), some (vi x10), some (vi x11), some (vi x12), none, none] [] h (f_L_stable_J132 c48 x1 x2 x5 x6 x7 x8 x9 x10 x11 x12 h) := by
  unfold f_L_stable_J132
  refine z_iconst rfl rfl ?_
  refine Z.weak ?_ (t_L_stable_J133  _ _ _ _ _ _ _ _ _ _ _ _ hc48 _)
  exact wkL_c (wkL_c (wkL_c (wkL_c (wkL_c (wkL_c (wkL_c (wkL_c (wkL_c (wkL_c (wkL_c (wkL_c (wkL_c (wkL_n (wkL_n (wkL_nil _)))))))))))))))
set_option maxRecDepth 20000 in
set_option maxHeartbeats 1000000 in
theorem t_L_stable_J130 (c48 : Int → Hp → Option (Int × Hp)) (x1 : Int) (x2 : Int) (x5 : Int) (x6 : Int) (x7 : Int) (x8 : Int) (x9 : Int) (x10 : Int) (x11 : Int) (x12 : Int) (hc48 : ∀ (y6 : Int) (h : Hp), Z M_L_stable 2 2 48 [some (vr 0), some (vi x1), some (vi x2), some (vr 76), some (vr 77), some (vi x5), some (vi y6), none, none, none, none, none, none, none, none] [] h (c48 y6 h)) (h : Hp) : Z M_L_stable 2 2 130 [some (vr 0), some (vi x1), some (vi x2), some (vr 76), some (vr 77), some (vi x5), some (vi x6), some (vi x7), some (vi x8), some (vi x9), some (vi x10), some (vi x11), some (vi x12), none, none] [] h (f_L_stable_J130 c48 x1 x2 x5 x6 x7 x8 x9 x10 x11 x12 h) := by
  unfold f_L_stable_J130
  refine z_iconst rfl rfl ?_
  refine z_goto rfl ?_
  refine Z.weak ?_ (t_L_stable_J133  _ _ _ _ _ _ _ _ _ _ _ _ hc48 _)
  exact wkL_c (wkL_c (wkL_c (wkL_c (wkL_c (wkL_c (wkL_c (wkL_c (wkL_c (wkL_c (wkL_c (wkL_c (wkL_c (wkL_n (wkL_n (wkL_nil _)))))))))))))))
set_option maxRecDepth 20000 in
set_option maxHeartbeats 1000000 in
theorem t_L_stable_J114 (c48 : Int → Hp → Option (Int × Hp)) (x1 : Int) (x2 : Int) (x5 : Int) (x6 : Int) (x7 : Int) (x8 : Int) (x9 : Int) (x10 : Int) (x11 : Int) (s0 : Int) (hc48 : ∀ (y6 : Int) (h : Hp), Z M_L_stable 2 2 48 [some (vr 0), some (vi x1), some (vi x2), some (vr 76), some (vr 77), some (vi x5), some (vi y6), none, none, none, none, none, none, none, none] [] h (c48 y6 h)) (h : Hp) : Z M_L_stable 2 2 114 [some (vr 0), some (vi x1), some (vi x2), some (vr 76), some (vr 77), some (vi x5), some (vi x6), some (vi x7), some (vi x8), some (vi x9), some (vi x10), some (vi x11), none, none, none] [vi s0] h (f_L_stable_J114 c48 x1 x2 x5 x6 x7 x8 x9 x10 x11 s0 h) := by
  unfold f_L_stable_J114
  refine z_istore rfl rfl ?_
  refine z_iload rfl rfl ?_
  refine z_if_lt rfl ?_ ?_
  · refine Z.weak ?_ (t_L_stable_J132  _ _ _ _ _ _ _ _ _ _ _ hc48 _)
    exact wkL_c (wkL_c (wkL_c (wkL_c (wkL_c (wkL_c (wkL_c (wkL_c (wkL_c (wkL_c (wkL_c (wkL_c (wkL_c (wkL_n (wkL_n (wkL_nil _)))))))))))))))
  · refine z_aload rfl rfl ?_
    refine z_iload rfl rfl ?_
    refine z_ialoadW rfl kd_77 ?_
    refine z_iload rfl rfl ?_
    refine z_icmp_gt rfl ?_ ?_
    · refine Z.weak ?_ (t_L_stable_J130  _ _ _ _ _ _ _ _ _ _ _ hc48 _)
      exact wkL_c (wkL_c (wkL_c (wkL_c (wkL_c (wkL_c (wkL_c (wkL_c (wkL_c (wkL_c (wkL_c (wkL_c (wkL_c (wkL_n (wkL_n (wkL_nil _)))))))))))))))
    · refine z_aload rfl rfl ?_
      refine z_iload rfl rfl ?_
      refine z_ialoadW rfl kd_77 ?_
      refine z_iload rfl rfl ?_
      refine z_icmp_ne rfl ?_ ?_
      · refine Z.weak ?_ (t_L_stable_J132  _ _ _ _ _ _ _ _ _ _ _ hc48 _)
        exact wkL_c (wkL_c (wkL_c (wkL_c (wkL_c (wkL_c (wkL_c (wkL_c (wkL_c (wkL_c (wkL_c (wkL_c (wkL_c (wkL_n (wkL_n (wkL_nil _)))))))))))))))
      · refine z_iload rfl rfl ?_
        refine z_iload rfl rfl ?_
        refine z_icmp_ge rfl ?_ ?_
        · refine Z.weak ?_ (t_L_stable_J132  _ _ _ _ _ _ _ _ _ _ _ hc48 _)
          exact wkL_c (wkL_c (wkL_c (wkL_c (wkL_c (wkL_c (wkL_c (wkL_c (wkL_c (wkL_c (wkL_c (wkL_c (wkL_c (wkL_n (wkL_n (wkL_nil _)))))))))))))))
        · refine Z.weak ?_ (t_L_stable_J130  _ _ _ _ _ _ _ _ _ _ _ hc48 _)
          exact wkL_c (wkL_c (wkL_c (wkL_c (wkL_c (wkL_c (wkL_c (wkL_c (wkL_c (wkL_c (wkL_c (wkL_c (wkL_c (wkL_n (wkL_n (wkL_nil _)))))))))))))))
set_option maxRecDepth 20000 in
set_option maxHeartbeats 1000000 in
theorem t_L_stable_J113 (c48 : Int → Hp → Option (Int × Hp)) (x1 : Int) (x2 : Int) (x5 : Int) (x6 : Int) (x7 : Int) (x8 : Int) (x9 : Int) (x10 : Int) (x11 : Int) (hc48 : ∀ (y6 : Int) (h : Hp), Z M_L_stable 2 2 48 [some (vr 0), some (vi x1), some (vi x2), some (vr 76), some (vr 77), some (vi x5), some (vi y6), none, none, none, none, none, none, none, none] [] h (c48 y6 h)) (h : Hp) : Z M_L_stable 2 2 113 [some (vr 0), some (vi x1), some (vi x2), some (vr 76), some (vr 77), some (vi x5), some (vi x6), some (vi x7), some (vi x8), some (vi x9), some (vi x10), some (vi x11), none, none, none] [] h (f_L_stable_J113 c48 x1 x2 x5 x6 x7 x8 x9 x10 x11 h) := by
  unfold f_L_stable_J113
  refine z_iconst rfl rfl ?_
  refine Z.weak ?_ (t_L_stable_J114  _ _ _ _ _ _ _ _ _ _ _ hc48 _)
  exact wkL_c (wkL_c (wkL_c (wkL_c (wkL_c (wkL_c (wkL_c (wkL_c (wkL_c (wkL_c (wkL_c (wkL_c (wkL_n (wkL_n (wkL_n (wkL_nil _)))))))))))))))
set_option maxRecDepth 20000 in
set_option maxHeartbeats 1000000 in
theorem t_L_stable_L48 (x1 : Int) (x2 : Int) (x5 : Int) (c210 : Hp → Option (Int × Hp)) (hc210 : ∀ (h : Hp), Z M_L_stable 2 2 210 [some (vr 0), some (vi x1), some (vi x2), some (vr 76), some (vr 77), some (vi x5), none, none, none, none, none, none, none, none, none] [] h (c210  h)) : ∀ (n : Nat) (x6 : Int) (h : Hp), Z M_L_stable 2 2 48 [some (vr 0), some (vi x1), some (vi x2), some (vr 76), some (vr 77), some (vi x5), some (vi x6), none, none, none, none, none, none, none, none] [] h (f_L_stable_L48 x1 x2 x5 c210 n x6 h) := by
  intro n
  induction n with
  | zero => intro x6 h; exact Z.nix
  | succ n ih =>
    intro x6 h
    rw [f_L_stable_L48_s]
    refine z_iload rfl rfl ?_
    refine z_iload_n rfl rfl ?_
    refine z_icmp_ge rfl ?_ ?_
    · refine Z.weak ?_ (hc210 _)
      exact wkL_c (wkL_c (wkL_c (wkL_c (wkL_c (wkL_c (wkL_n (wkL_n (wkL_n (wkL_n (wkL_n (wkL_n (wkL_n (wkL_n (wkL_n (wkL_nil _)))))))))))))))
    · refine z_aload_n rfl rfl ?_
      refine z_iload rfl rfl ?_
      refine z_iload rfl rfl ?_
      refine z_V2i ko4 mv_L_62 kd_0 (t_X4_why _ _ _) rfl rfl rfl rfl rfl rfl (fun r12 h12 => ?_)
      refine z_istore rfl rfl ?_
      refine z_aload_n rfl rfl ?_
      refine z_iload rfl rfl ?_
      refine z_iload rfl rfl ?_
      refine z_V2i ko4 mv_L_59 kd_0 (t_X4_points _ _ _) rfl rfl rfl rfl rfl rfl (fun r13 h13 => ?_)
      refine z_sipush rfl rfl ?_
      refine z_isub rfl ?_
      refine z_istoreL rfl rfl (fun y14 => ?_)
      refine z_aload_n rfl rfl ?_
      refine z_iload rfl rfl ?_
      refine z_ialoadW rfl kd_76 ?_
      refine z_istoreL rfl rfl (fun y15 => ?_)
      refine z_aload_n rfl rfl ?_
      refine z_iload rfl rfl ?_
      refine z_iconst rfl rfl ?_
      refine z_V2i ko4 mv_L_56 kd_0 (t_X4_claimOf _ _ _) rfl rfl rfl rfl rfl rfl (fun r16 h16 => ?_)
      refine z_istore rfl rfl ?_
      refine z_iconst rfl rfl ?_
      refine z_istore rfl rfl ?_
      refine z_iconst rfl rfl ?_
      refine z_istore rfl rfl ?_
      refine Z.weak ?_ (t_L_stable_L76  _ _ _ _ _ _ _ _  _  ?_  fu _ _ _)
      · exact wkL_c (wkL_c (wkL_c (wkL_c (wkL_c (wkL_c (wkL_c (wkL_c (wkL_c (wkL_c (wkL_c (wkL_c (wkL_c (wkL_n (wkL_n (wkL_nil _)))))))))))))))
      · intro y23 h24
        refine z_iload rfl rfl ?_
        refine z_aload_n rfl rfl ?_
        refine z_bipush rfl rfl ?_
        refine z_V1i ko4 mv_L_47 kd_0 (t_X4_count _ _) rfl rfl rfl rfl rfl rfl (fun r25 h25 => ?_)
        refine z_icmp_gt rfl ?_ ?_
        · refine Z.weak ?_ (t_L_stable_J113  _ _ _ _ _ _ _ _ _ _ ih _)
          exact wkL_c (wkL_c (wkL_c (wkL_c (wkL_c (wkL_c (wkL_c (wkL_c (wkL_c (wkL_c (wkL_c (wkL_c (wkL_n (wkL_n (wkL_n (wkL_nil _)))))))))))))))
        · refine z_iload rfl rfl ?_
          refine z_aload_n rfl rfl ?_
          refine z_bipush rfl rfl ?_
          refine z_V1i ko4 mv_L_47 kd_0 (t_X4_count _ _) rfl rfl rfl rfl rfl rfl (fun r27 h27 => ?_)
          refine z_icmp_lt rfl ?_ ?_
          · refine Z.weak ?_ (t_L_stable_J113  _ _ _ _ _ _ _ _ _ _ ih _)
            exact wkL_c (wkL_c (wkL_c (wkL_c (wkL_c (wkL_c (wkL_c (wkL_c (wkL_c (wkL_c (wkL_c (wkL_c (wkL_n (wkL_n (wkL_n (wkL_nil _)))))))))))))))
          · refine z_iconst rfl rfl ?_
            refine z_goto rfl ?_
            refine Z.weak ?_ (t_L_stable_J114  _ _ _ _ _ _ _ _ _ _ _ ih _)
            exact wkL_c (wkL_c (wkL_c (wkL_c (wkL_c (wkL_c (wkL_c (wkL_c (wkL_c (wkL_c (wkL_c (wkL_c (wkL_n (wkL_n (wkL_n (wkL_nil _)))))))))))))))
set_option maxRecDepth 20000 in
set_option maxHeartbeats 1000000 in
theorem t_L_stable_L37 (x1 : Int) (x2 : Int) : ∀ (n : Nat) (x5 : Int) (h : Hp), Z M_L_stable 2 2 37 [some (vr 0), some (vi x1), some (vi x2), some (vr 76), some (vr 77), some (vi x5), none, none, none, none, none, none, none, none, none] [] h (f_L_stable_L37 x1 x2 n x5 h) := by
  intro n
  induction n with
  | zero => intro x5 h; exact Z.nix
  | succ n ih =>
    intro x5 h
    rw [f_L_stable_L37_s]
    refine z_iload rfl rfl ?_
    refine z_iload_n rfl rfl ?_
    refine z_icmp_ge rfl ?_ ?_
    · refine z_iconst rfl rfl ?_
      exact z_zret1 rfl rfl
    · refine z_iload rfl rfl ?_
      refine z_aload_n rfl rfl ?_
      refine z_bipush rfl rfl ?_
      refine z_V1i ko4 mv_L_47 kd_0 (t_X4_count _ _) rfl rfl rfl rfl rfl rfl (fun r10 h10 => ?_)
      refine z_iadd rfl ?_
      refine z_iconst rfl rfl ?_
      refine z_irem rfl rfl ?_
      refine z_istoreL rfl rfl (fun y11 => ?_)
      refine Z.weak ?_ (t_L_stable_L48  _ _ _  _  ?_  fu _ _)
      · exact wkL_c (wkL_c (wkL_c (wkL_c (wkL_c (wkL_c (wkL_c (wkL_n (wkL_n (wkL_n (wkL_n (wkL_n (wkL_n (wkL_n (wkL_n (wkL_nil _)))))))))))))))
      · intro h28
        refine z_iinc rfl rfl rfl ?_
        refine z_goto rfl ?_
        refine Z.weak ?_ (ih _ _)
        exact wkL_c (wkL_c (wkL_c (wkL_c (wkL_c (wkL_c (wkL_n (wkL_n (wkL_n (wkL_n (wkL_n (wkL_n (wkL_n (wkL_n (wkL_n (wkL_nil _)))))))))))))))
set_option maxRecDepth 20000 in
set_option maxHeartbeats 1000000 in
theorem t_L_stable  (h : Hp) : Ct M_L_stable [vr 0] h (f_L_stable  h) := by
  refine Ct.mk ok_L_stable pl_L_stable rfl rfl ?_
  show Z M_L_stable 0 0 0 [some (vr 0), none, none, none, none, none, none, none, none, none, none, none, none, none, none] [] h (f_L_stable  h)
  unfold f_L_stable
  refine z_aload_n rfl rfl ?_
  refine z_iconst rfl rfl ?_
  refine z_V1i ko4 mv_L_47 kd_0 (t_X4_count _ _) rfl rfl rfl rfl rfl rfl (fun r1 h1 => ?_)
  refine z_istore_n rfl rfl ?_
  refine z_aload_n rfl rfl ?_
  refine z_iconst rfl rfl ?_
  refine z_V1i ko4 mv_L_47 kd_0 (t_X4_count _ _) rfl rfl rfl rfl rfl rfl (fun r2 h2 => ?_)
  refine z_istore_n rfl rfl ?_
  refine z_bipush rfl rfl ?_
  refine z_newI kd_76 rfl ar_int rfl (fun h3 => ?_)
  refine z_astore_n rfl rfl ?_
  refine z_bipush rfl rfl ?_
  refine z_newI kd_77 rfl ar_int rfl (fun h4 => ?_)
  refine z_astore rfl rfl ?_
  refine z_iconst rfl rfl ?_
  refine z_istore rfl rfl ?_
  refine Z.weak ?_ (t_L_stable_L16  _ _  _  ?_  fu _ _)
  · exact wkL_c (wkL_c (wkL_c (wkL_c (wkL_c (wkL_c (wkL_n (wkL_n (wkL_n (wkL_n (wkL_n (wkL_n (wkL_n (wkL_n (wkL_n (wkL_nil _)))))))))))))))
  · intro h9
    refine z_iconst rfl rfl ?_
    refine z_istore rfl rfl ?_
    refine Z.weak ?_ (t_L_stable_L37  _ _     fu _ _)
    · exact wkL_c (wkL_c (wkL_c (wkL_c (wkL_c (wkL_c (wkL_n (wkL_n (wkL_n (wkL_n (wkL_n (wkL_n (wkL_n (wkL_n (wkL_n (wkL_nil _)))))))))))))))
set_option maxRecDepth 20000 in
set_option maxHeartbeats 1000000 in
theorem t_L_hangs_L24 (x1 : Int) (x2 : Int) (x3 : Int) (x4 : Int) (x5 : Int) (x7 : Int) (c41 : Int → Hp → Option (Int × Hp)) (hc41 : ∀ (y6 : Int) (h : Hp), Z M_L_hangs 0 0 41 [some (vr 0), some (vi x1), some (vi x2), some (vi x3), some (vi x4), some (vi x5), some (vi y6), some (vi x7), none] [] h (c41 y6 h)) : ∀ (n : Nat) (x6 : Int) (x8 : Int) (h : Hp), Z M_L_hangs 0 0 24 [some (vr 0), some (vi x1), some (vi x2), some (vi x3), some (vi x4), some (vi x5), some (vi x6), some (vi x7), some (vi x8)] [] h (f_L_hangs_L24 x1 x2 x3 x4 x5 x7 c41 n x6 x8 h) := by
  intro n
  induction n with
  | zero => intro x6 x8 h; exact Z.nix
  | succ n ih =>
    intro x6 x8 h
    rw [f_L_hangs_L24_s]
    refine z_iload rfl rfl ?_
    refine z_iconst rfl rfl ?_
    refine z_icmp_ge rfl ?_ ?_
    · refine Z.weak ?_ (hc41 _ _)
      exact wkL_c (wkL_c (wkL_c (wkL_c (wkL_c (wkL_c (wkL_c (wkL_c (wkL_n (wkL_nil _)))))))))
    · refine z_iload rfl rfl ?_
      refine z_bipush rfl rfl ?_
      refine z_aload_n rfl rfl ?_
      refine z_iload rfl rfl ?_
      refine z_aload_n rfl rfl ?_
      refine z_iload rfl rfl ?_
      refine z_iload rfl rfl ?_
      refine z_V2i ko4 mv_L_50 kd_0 (t_X4_umbrella _ _ _) rfl rfl rfl rfl rfl rfl (fun r3 h3 => ?_)
      refine z_V2i ko4 mv_L_53 kd_0 (t_X4_having _ _ _) rfl rfl rfl rfl rfl rfl (fun r4 h4 => ?_)
      refine z_isub rfl ?_
      refine z_iadd rfl ?_
      refine z_istoreL rfl rfl (fun y5 => ?_)
      refine z_iinc rfl rfl rfl ?_
      refine z_goto rfl ?_
      refine Z.weak ?_ (ih _ _ _)
      exact wkL_c (wkL_c (wkL_c (wkL_c (wkL_c (wkL_c (wkL_c (wkL_c (wkL_c (wkL_nil _)))))))))
set_option maxRecDepth 20000 in
set_option maxHeartbeats 1000000 in
theorem t_L_hangs_J112 (c10 : Int → Int → Int → Int → Int → Hp → Option (Int × Hp)) (x1 : Int) (x2 : Int) (x3 : Int) (x4 : Int) (x5 : Int) (x7 : Int) (hc10 : ∀ (y1 : Int) (y2 : Int) (y3 : Int) (y4 : Int) (y5 : Int) (h : Hp), Z M_L_hangs 0 0 10 [some (vr 0), some (vi y1), some (vi y2), some (vi y3), some (vi y4), some (vi y5), none, none, none] [] h (c10 y1 y2 y3 y4 y5 h)) (h : Hp) : Z M_L_hangs 0 0 112 [some (vr 0), some (vi x1), some (vi x2), some (vi x3), some (vi x4), some (vi x5), none, some (vi x7), none] [] h (f_L_hangs_J112 c10 x1 x2 x3 x4 x5 x7 h) := by
  unfold f_L_hangs_J112
  refine z_iload rfl rfl ?_
  refine z_if_ge rfl ?_ ?_
  · refine z_iinc rfl rfl rfl ?_
    refine z_goto rfl ?_
    refine Z.weak ?_ (hc10 _ _ _ _ _ _)
    exact wkL_c (wkL_c (wkL_c (wkL_c (wkL_c (wkL_c (wkL_n (wkL_n (wkL_n (wkL_nil _)))))))))
  · refine z_aload_n rfl rfl ?_
    refine z_iload rfl rfl ?_
    refine z_bipush rfl rfl ?_
    refine z_V2i ko4 mv_L_50 kd_0 (t_X4_umbrella _ _ _) rfl rfl rfl rfl rfl rfl (fun r13 h13 => ?_)
    refine z_iload rfl rfl ?_
    refine z_icmp_eq rfl ?_ ?_
    · refine z_iinc rfl rfl rfl ?_
      refine z_goto rfl ?_
      refine Z.weak ?_ (hc10 _ _ _ _ _ _)
      exact wkL_c (wkL_c (wkL_c (wkL_c (wkL_c (wkL_c (wkL_n (wkL_n (wkL_n (wkL_nil _)))))))))
    · refine z_iconst rfl rfl ?_
      exact z_zret0 rfl rfl
set_option maxRecDepth 20000 in
set_option maxHeartbeats 1000000 in
theorem t_L_hangs_J65 (c10 : Int → Int → Int → Int → Int → Hp → Option (Int × Hp)) (x2 : Int) (x3 : Int) (x4 : Int) (x5 : Int) (x6 : Int) (x7 : Int) (s0 : Int) (s1 : Int) (hc10 : ∀ (y1 : Int) (y2 : Int) (y3 : Int) (y4 : Int) (y5 : Int) (h : Hp), Z M_L_hangs 0 0 10 [some (vr 0), some (vi y1), some (vi y2), some (vi y3), some (vi y4), some (vi y5), none, none, none] [] h (c10 y1 y2 y3 y4 y5 h)) (h : Hp) : Z M_L_hangs 0 0 65 [some (vr 0), none, some (vi x2), some (vi x3), some (vi x4), some (vi x5), some (vi x6), some (vi x7), none] [vi s1, vi s0] h (f_L_hangs_J65 c10 x2 x3 x4 x5 x6 x7 s0 s1 h) := by
  unfold f_L_hangs_J65
  refine z_iadd rfl ?_
  refine z_istore_nL rfl rfl (fun y9 => ?_)
  refine z_iload_n rfl rfl ?_
  refine z_aload_n rfl rfl ?_
  refine z_iload rfl rfl ?_
  refine z_bipush rfl rfl ?_
  refine z_V2i ko4 mv_L_50 kd_0 (t_X4_umbrella _ _ _) rfl rfl rfl rfl rfl rfl (fun r10 h10 => ?_)
  refine z_iadd rfl ?_
  refine z_istore_nL rfl rfl (fun y11 => ?_)
  refine z_aload_n rfl rfl ?_
  refine z_iload rfl rfl ?_
  refine z_bipush rfl rfl ?_
  refine z_V2i ko4 mv_L_50 kd_0 (t_X4_umbrella _ _ _) rfl rfl rfl rfl rfl rfl (fun r12 h12 => ?_)
  refine z_iload rfl rfl ?_
  refine z_icmp_ne rfl ?_ ?_
  · refine z_iconst rfl rfl ?_
    exact z_zret0 rfl rfl
  · refine z_iload rfl rfl ?_
    refine z_if_lt rfl ?_ ?_
    · refine Z.weak ?_ (t_L_hangs_J112  _ _ _ _ _ _ _ hc10 _)
      exact wkL_c (wkL_c (wkL_c (wkL_c (wkL_c (wkL_c (wkL_n (wkL_c (wkL_n (wkL_nil _)))))))))
    · refine z_aload_n rfl rfl ?_
      refine z_iload rfl rfl ?_
      refine z_iconst rfl rfl ?_
      refine z_V2i ko4 mv_L_56 kd_0 (t_X4_claimOf _ _ _) rfl rfl rfl rfl rfl rfl (fun r14 h14 => ?_)
      refine z_iload rfl rfl ?_
      refine z_icmp_ne rfl ?_ ?_
      · refine z_iconst rfl rfl ?_
        exact z_zret0 rfl rfl
      · refine z_aload_n rfl rfl ?_
        refine z_iload rfl rfl ?_
        refine z_iload rfl rfl ?_
        refine z_V2i ko4 mv_L_59 kd_0 (t_X4_points _ _ _) rfl rfl rfl rfl rfl rfl (fun r15 h15 => ?_)
        refine z_sipush rfl rfl ?_
        refine z_aload_n rfl rfl ?_
        refine z_iload rfl rfl ?_
        refine z_bipush rfl rfl ?_
        refine z_V2i ko4 mv_L_50 kd_0 (t_X4_umbrella _ _ _) rfl rfl rfl rfl rfl rfl (fun r16 h16 => ?_)
        refine z_iadd rfl ?_
        refine z_icmp_ne rfl ?_ ?_
        · refine z_iconst rfl rfl ?_
          exact z_zret0 rfl rfl
        · refine z_aload_n rfl rfl ?_
          refine z_iload rfl rfl ?_
          refine z_bipush rfl rfl ?_
          refine z_V2i ko4 mv_L_50 kd_0 (t_X4_umbrella _ _ _) rfl rfl rfl rfl rfl rfl (fun r17 h17 => ?_)
          refine z_aload_n rfl rfl ?_
          refine z_bipush rfl rfl ?_
          refine z_V1i ko4 mv_L_47 kd_0 (t_X4_count _ _) rfl rfl rfl rfl rfl rfl (fun r18 h18 => ?_)
          refine z_icmp_lt rfl ?_ ?_
          · refine z_iconst rfl rfl ?_
            exact z_zret0 rfl rfl
          · refine z_aload_n rfl rfl ?_
            refine z_iload rfl rfl ?_
            refine z_iload rfl rfl ?_
            refine z_V2i ko4 mv_L_62 kd_0 (t_X4_why _ _ _) rfl rfl rfl rfl rfl rfl (fun r19 h19 => ?_)
            refine z_if_ne rfl ?_ ?_
            · refine z_iconst rfl rfl ?_
              exact z_zret0 rfl rfl
            · refine Z.weak ?_ (t_L_hangs_J112  _ _ _ _ _ _ _ hc10 _)
              exact wkL_c (wkL_c (wkL_c (wkL_c (wkL_c (wkL_c (wkL_n (wkL_c (wkL_n (wkL_nil _)))))))))
set_option maxRecDepth 20000 in
set_option maxHeartbeats 1000000 in
theorem t_L_hangs_J54 (c10 : Int → Int → Int → Int → Int → Hp → Option (Int × Hp)) (x1 : Int) (x3 : Int) (x4 : Int) (x5 : Int) (x6 : Int) (x7 : Int) (s0 : Int) (s1 : Int) (hc10 : ∀ (y1 : Int) (y2 : Int) (y3 : Int) (y4 : Int) (y5 : Int) (h : Hp), Z M_L_hangs 0 0 10 [some (vr 0), some (vi y1), some (vi y2), some (vi y3), some (vi y4), some (vi y5), none, none, none] [] h (c10 y1 y2 y3 y4 y5 h)) (h : Hp) : Z M_L_hangs 0 0 54 [some (vr 0), some (vi x1), none, some (vi x3), some (vi x4), some (vi x5), some (vi x6), some (vi x7), none] [vi s1, vi s0] h (f_L_hangs_J54 c10 x1 x3 x4 x5 x6 x7 s0 s1 h) := by
  unfold f_L_hangs_J54
  refine z_iadd rfl ?_
  refine z_istore_nL rfl rfl (fun y8 => ?_)
  refine z_iload_n rfl rfl ?_
  refine z_iload rfl rfl ?_
  refine z_if_lt rfl ?_ ?_
  · refine z_iconst rfl rfl ?_
    refine Z.weak ?_ (t_L_hangs_J65  _ _ _ _ _ _ _ _ _ hc10 _)
    exact wkL_c (wkL_n (wkL_c (wkL_c (wkL_c (wkL_c (wkL_c (wkL_c (wkL_n (wkL_nil _)))))))))
  · refine z_aload_n rfl rfl ?_
    refine z_iload rfl rfl ?_
    refine z_bipush rfl rfl ?_
    refine z_V2i ko4 mv_L_50 kd_0 (t_X4_umbrella _ _ _) rfl rfl rfl rfl rfl rfl (fun r20 h20 => ?_)
    refine z_goto rfl ?_
    refine Z.weak ?_ (t_L_hangs_J65  _ _ _ _ _ _ _ _ _ hc10 _)
    exact wkL_c (wkL_n (wkL_c (wkL_c (wkL_c (wkL_c (wkL_c (wkL_c (wkL_n (wkL_nil _)))))))))
set_option maxRecDepth 20000 in
set_option maxHeartbeats 1000000 in
theorem t_L_hangs_J47 (c10 : Int → Int → Int → Int → Int → Hp → Option (Int × Hp)) (x1 : Int) (x2 : Int) (x3 : Int) (x5 : Int) (x6 : Int) (x7 : Int) (s0 : Int) (hc10 : ∀ (y1 : Int) (y2 : Int) (y3 : Int) (y4 : Int) (y5 : Int) (h : Hp), Z M_L_hangs 0 0 10 [some (vr 0), some (vi y1), some (vi y2), some (vi y3), some (vi y4), some (vi y5), none, none, none] [] h (c10 y1 y2 y3 y4 y5 h)) (h : Hp) : Z M_L_hangs 0 0 47 [some (vr 0), some (vi x1), some (vi x2), some (vi x3), none, some (vi x5), some (vi x6), some (vi x7), none] [vi s0] h (f_L_hangs_J47 c10 x1 x2 x3 x5 x6 x7 s0 h) := by
  unfold f_L_hangs_J47
  refine z_istore rfl rfl ?_
  refine z_iload_n rfl rfl ?_
  refine z_iload rfl rfl ?_
  refine z_if_lt rfl ?_ ?_
  · refine z_iconst rfl rfl ?_
    refine Z.weak ?_ (t_L_hangs_J54  _ _ _ _ _ _ _ _ _ hc10 _)
    exact wkL_c (wkL_c (wkL_n (wkL_c (wkL_c (wkL_c (wkL_c (wkL_c (wkL_n (wkL_nil _)))))))))
  · refine z_iconst rfl rfl ?_
    refine z_goto rfl ?_
    refine Z.weak ?_ (t_L_hangs_J54  _ _ _ _ _ _ _ _ _ hc10 _)
    exact wkL_c (wkL_c (wkL_n (wkL_c (wkL_c (wkL_c (wkL_c (wkL_c (wkL_n (wkL_nil _)))))))))
set_option maxRecDepth 20000 in
set_option maxHeartbeats 1000000 in
theorem t_L_hangs_L10 (c124 : Int → Int → Int → Int → Hp → Option (Int × Hp)) (hc124 : ∀ (y1 : Int) (y2 : Int) (y3 : Int) (y4 : Int) (h : Hp), Z M_L_hangs 0 0 124 [some (vr 0), some (vi y1), some (vi y2), some (vi y3), some (vi y4), none, none, none, none] [] h (c124 y1 y2 y3 y4 h)) : ∀ (n : Nat) (x1 : Int) (x2 : Int) (x3 : Int) (x4 : Int) (x5 : Int) (h : Hp), Z M_L_hangs 0 0 10 [some (vr 0), some (vi x1), some (vi x2), some (vi x3), some (vi x4), some (vi x5), none, none, none] [] h (f_L_hangs_L10 c124 n x1 x2 x3 x4 x5 h) := by
  intro n
  induction n with
  | zero => intro x1 x2 x3 x4 x5 h; exact Z.nix
  | succ n ih =>
    intro x1 x2 x3 x4 x5 h
    rw [f_L_hangs_L10_s]
    refine z_iload rfl rfl ?_
    refine z_aload_n rfl rfl ?_
    refine z_iconst rfl rfl ?_
    refine z_V1i ko4 mv_L_47 kd_0 (t_X4_count _ _) rfl rfl rfl rfl rfl rfl (fun r1 h1 => ?_)
    refine z_icmp_ge rfl ?_ ?_
    · refine Z.weak ?_ (hc124 _ _ _ _ _)
      exact wkL_c (wkL_c (wkL_c (wkL_c (wkL_c (wkL_n (wkL_n (wkL_n (wkL_n (wkL_nil _)))))))))
    · refine z_iconst rfl rfl ?_
      refine z_istore rfl rfl ?_
      refine z_aload_n rfl rfl ?_
      refine z_iload rfl rfl ?_
      refine z_iconst rfl rfl ?_
      refine z_V2i ko4 mv_L_50 kd_0 (t_X4_umbrella _ _ _) rfl rfl rfl rfl rfl rfl (fun r2 h2 => ?_)
      refine z_istore rfl rfl ?_
      refine z_iconst rfl rfl ?_
      refine z_istore rfl rfl ?_
      refine Z.weak ?_ (t_L_hangs_L24  _ _ _ _ _ _  _  ?_  fu _ _ _)
      · exact wkL_c (wkL_c (wkL_c (wkL_c (wkL_c (wkL_c (wkL_c (wkL_c (wkL_c (wkL_nil _)))))))))
      · intro y6 h7
        refine z_iload rfl rfl ?_
        refine z_iload rfl rfl ?_
        refine z_icmp_le rfl ?_ ?_
        · refine z_iload rfl rfl ?_
          refine Z.weak ?_ (t_L_hangs_J47  _ _ _ _ _ _ _ _ ih _)
          exact wkL_c (wkL_c (wkL_c (wkL_c (wkL_n (wkL_c (wkL_c (wkL_c (wkL_n (wkL_nil _)))))))))
        · refine z_iload rfl rfl ?_
          refine z_goto rfl ?_
          refine Z.weak ?_ (t_L_hangs_J47  _ _ _ _ _ _ _ _ ih _)
          exact wkL_c (wkL_c (wkL_c (wkL_c (wkL_n (wkL_c (wkL_c (wkL_c (wkL_n (wkL_nil _)))))))))
set_option maxRecDepth 20000 in
set_option maxHeartbeats 1000000 in
theorem t_L_hangs_J159 (c126 : Int → Int → Int → Hp → Option (Int × Hp)) (x1 : Int) (x2 : Int) (x3 : Int) (x4 : Int) (x5 : Int) (hc126 : ∀ (y2 : Int) (y3 : Int) (y5 : Int) (h : Hp), Z M_L_hangs 0 0 126 [some (vr 0), some (vi x1), some (vi y2), some (vi y3), some (vi x4), some (vi y5), none, none, none] [] h (c126 y2 y3 y5 h)) (h : Hp) : Z M_L_hangs 0 0 159 [some (vr 0), some (vi x1), some (vi x2), some (vi x3), some (vi x4), some (vi x5), none, none, none] [] h (f_L_hangs_J159 c126 x1 x2 x3 x4 x5 h) := by
  unfold f_L_hangs_J159
  refine z_aload_n rfl rfl ?_
  refine z_iload rfl rfl ?_
  refine z_bipush rfl rfl ?_
  refine z_V2i ko4 mv_L_56 kd_0 (t_X4_claimOf _ _ _) rfl rfl rfl rfl rfl rfl (fun r31 h31 => ?_)
  refine z_if_ge rfl ?_ ?_
  · refine z_iinc rfl rfl rfl ?_
    refine z_goto rfl ?_
    refine Z.weak ?_ (hc126 _ _ _ _)
    exact wkL_c (wkL_c (wkL_c (wkL_c (wkL_c (wkL_c (wkL_n (wkL_n (wkL_n (wkL_nil _)))))))))
  · refine z_iconst rfl rfl ?_
    exact z_zret0 rfl rfl
set_option maxRecDepth 20000 in
set_option maxHeartbeats 1000000 in
theorem t_L_hangs_J149 (c126 : Int → Int → Int → Hp → Option (Int × Hp)) (x1 : Int) (x3 : Int) (x4 : Int) (x5 : Int) (x6 : Int) (s0 : Int) (s1 : Int) (hc126 : ∀ (y2 : Int) (y3 : Int) (y5 : Int) (h : Hp), Z M_L_hangs 0 0 126 [some (vr 0), some (vi x1), some (vi y2), some (vi y3), some (vi x4), some (vi y5), none, none, none] [] h (c126 y2 y3 y5 h)) (h : Hp) : Z M_L_hangs 0 0 149 [some (vr 0), some (vi x1), none, some (vi x3), some (vi x4), some (vi x5), some (vi x6), none, none] [vi s1, vi s0] h (f_L_hangs_J149 c126 x1 x3 x4 x5 x6 s0 s1 h) := by
  unfold f_L_hangs_J149
  refine z_isub rfl ?_
  refine z_istore_nL rfl rfl (fun y30 => ?_)
  refine z_iload rfl rfl ?_
  refine z_if_lt rfl ?_ ?_
  · refine Z.weak ?_ (t_L_hangs_J159  _ _ _ _ _ _ hc126 _)
    exact wkL_c (wkL_c (wkL_c (wkL_c (wkL_c (wkL_c (wkL_n (wkL_n (wkL_n (wkL_nil _)))))))))
  · refine z_aload_n rfl rfl ?_
    refine z_iload rfl rfl ?_
    refine z_iconst rfl rfl ?_
    refine z_V2i ko4 mv_L_50 kd_0 (t_X4_umbrella _ _ _) rfl rfl rfl rfl rfl rfl (fun r32 h32 => ?_)
    refine z_iload rfl rfl ?_
    refine z_icmp_ne rfl ?_ ?_
    · refine z_iconst rfl rfl ?_
      exact z_zret0 rfl rfl
    · refine Z.weak ?_ (t_L_hangs_J159  _ _ _ _ _ _ hc126 _)
      exact wkL_c (wkL_c (wkL_c (wkL_c (wkL_c (wkL_c (wkL_n (wkL_n (wkL_n (wkL_nil _)))))))))
set_option maxRecDepth 20000 in
set_option maxHeartbeats 1000000 in
theorem t_L_hangs_L126 (x1 : Int) (x4 : Int) (c168 : Int → Int → Hp → Option (Int × Hp)) (hc168 : ∀ (y2 : Int) (y3 : Int) (h : Hp), Z M_L_hangs 0 0 168 [some (vr 0), some (vi x1), some (vi y2), some (vi y3), some (vi x4), none, none, none, none] [] h (c168 y2 y3 h)) : ∀ (n : Nat) (x2 : Int) (x3 : Int) (x5 : Int) (h : Hp), Z M_L_hangs 0 0 126 [some (vr 0), some (vi x1), some (vi x2), some (vi x3), some (vi x4), some (vi x5), none, none, none] [] h (f_L_hangs_L126 x1 x4 c168 n x2 x3 x5 h) := by
  intro n
  induction n with
  | zero => intro x2 x3 x5 h; exact Z.nix
  | succ n ih =>
    intro x2 x3 x5 h
    rw [f_L_hangs_L126_s]
    refine z_iload rfl rfl ?_
    refine z_aload_n rfl rfl ?_
    refine z_iconst rfl rfl ?_
    refine z_V1i ko4 mv_L_47 kd_0 (t_X4_count _ _) rfl rfl rfl rfl rfl rfl (fun r26 h26 => ?_)
    refine z_icmp_ge rfl ?_ ?_
    · refine Z.weak ?_ (hc168 _ _ _)
      exact wkL_c (wkL_c (wkL_c (wkL_c (wkL_c (wkL_n (wkL_n (wkL_n (wkL_n (wkL_nil _)))))))))
    · refine z_aload_n rfl rfl ?_
      refine z_iload rfl rfl ?_
      refine z_iconst rfl rfl ?_
      refine z_V2i ko4 mv_L_56 kd_0 (t_X4_claimOf _ _ _) rfl rfl rfl rfl rfl rfl (fun r27 h27 => ?_)
      refine z_istore rfl rfl ?_
      refine z_iload_n rfl rfl ?_
      refine z_aload_n rfl rfl ?_
      refine z_iload rfl rfl ?_
      refine z_bipush rfl rfl ?_
      refine z_V2i ko4 mv_L_56 kd_0 (t_X4_claimOf _ _ _) rfl rfl rfl rfl rfl rfl (fun r28 h28 => ?_)
      refine z_isub rfl ?_
      refine z_istore_nL rfl rfl (fun y29 => ?_)
      refine z_iload_n rfl rfl ?_
      refine z_iload rfl rfl ?_
      refine z_if_lt rfl ?_ ?_
      · refine z_iconst rfl rfl ?_
        refine Z.weak ?_ (t_L_hangs_J149  _ _ _ _ _ _ _ _ ih _)
        exact wkL_c (wkL_c (wkL_n (wkL_c (wkL_c (wkL_c (wkL_c (wkL_n (wkL_n (wkL_nil _)))))))))
      · refine z_iconst rfl rfl ?_
        refine z_goto rfl ?_
        refine Z.weak ?_ (t_L_hangs_J149  _ _ _ _ _ _ _ _ ih _)
        exact wkL_c (wkL_c (wkL_n (wkL_c (wkL_c (wkL_c (wkL_c (wkL_n (wkL_n (wkL_nil _)))))))))
set_option maxRecDepth 20000 in
set_option maxHeartbeats 1000000 in
theorem t_L_hangs_L177 (x1 : Int) (x2 : Int) (x3 : Int) (x4 : Int) (x5 : Int) (c189 : Int → Hp → Option (Int × Hp)) (hc189 : ∀ (y6 : Int) (h : Hp), Z M_L_hangs 0 0 189 [some (vr 0), some (vi x1), some (vi x2), some (vi x3), some (vi x4), some (vi x5), some (vi y6), none, none] [] h (c189 y6 h)) : ∀ (n : Nat) (x6 : Int) (x7 : Int) (h : Hp), Z M_L_hangs 0 0 177 [some (vr 0), some (vi x1), some (vi x2), some (vi x3), some (vi x4), some (vi x5), some (vi x6), some (vi x7), none] [] h (f_L_hangs_L177 x1 x2 x3 x4 x5 c189 n x6 x7 h) := by
  intro n
  induction n with
  | zero => intro x6 x7 h; exact Z.nix
  | succ n ih =>
    intro x6 x7 h
    rw [f_L_hangs_L177_s]
    refine z_iload rfl rfl ?_
    refine z_bipush rfl rfl ?_
    refine z_icmp_ge rfl ?_ ?_
    · refine Z.weak ?_ (hc189 _ _)
      exact wkL_c (wkL_c (wkL_c (wkL_c (wkL_c (wkL_c (wkL_c (wkL_n (wkL_n (wkL_nil _)))))))))
    · refine z_iload rfl rfl ?_
      refine z_aload_n rfl rfl ?_
      refine z_iload rfl rfl ?_
      refine z_iload rfl rfl ?_
      refine z_V2i ko4 mv_L_53 kd_0 (t_X4_having _ _ _) rfl rfl rfl rfl rfl rfl (fun r36 h36 => ?_)
      refine z_iadd rfl ?_
      refine z_istoreL rfl rfl (fun y37 => ?_)
      refine z_iinc rfl rfl rfl ?_
      refine z_goto rfl ?_
      refine Z.weak ?_ (ih _ _ _)
      exact wkL_c (wkL_c (wkL_c (wkL_c (wkL_c (wkL_c (wkL_c (wkL_c (wkL_n (wkL_nil _)))))))))
set_option maxRecDepth 20000 in
set_option maxHeartbeats 1000000 in
theorem t_L_hangs_L170 (x1 : Int) (x2 : Int) (x3 : Int) (x4 : Int) (c198 : Hp → Option (Int × Hp)) (hc198 : ∀ (h : Hp), Z M_L_hangs 0 0 198 [some (vr 0), some (vi x1), some (vi x2), some (vi x3), some (vi x4), none, none, none, none] [] h (c198  h)) : ∀ (n : Nat) (x5 : Int) (h : Hp), Z M_L_hangs 0 0 170 [some (vr 0), some (vi x1), some (vi x2), some (vi x3), some (vi x4), some (vi x5), none, none, none] [] h (f_L_hangs_L170 x1 x2 x3 x4 c198 n x5 h) := by
  intro n
  induction n with
  | zero => intro x5 h; exact Z.nix
  | succ n ih =>
    intro x5 h
    rw [f_L_hangs_L170_s]
    refine z_iload rfl rfl ?_
    refine z_iconst rfl rfl ?_
    refine z_icmp_ge rfl ?_ ?_
    · refine Z.weak ?_ (hc198 _)
      exact wkL_c (wkL_c (wkL_c (wkL_c (wkL_c (wkL_n (wkL_n (wkL_n (wkL_n (wkL_nil _)))))))))
    · refine z_iconst rfl rfl ?_
      refine z_istore rfl rfl ?_
      refine z_iconst rfl rfl ?_
      refine z_istore rfl rfl ?_
      refine Z.weak ?_ (t_L_hangs_L177  _ _ _ _ _  _  ?_  fu _ _ _)
      · exact wkL_c (wkL_c (wkL_c (wkL_c (wkL_c (wkL_c (wkL_c (wkL_c (wkL_n (wkL_nil _)))))))))
      · intro y38 h39
        refine z_iload rfl rfl ?_
        refine z_aload_n rfl rfl ?_
        refine z_iconst rfl rfl ?_
        refine z_V1i ko4 mv_L_47 kd_0 (t_X4_count _ _) rfl rfl rfl rfl rfl rfl (fun r40 h40 => ?_)
        refine z_icmp_eq rfl ?_ ?_
        · refine z_iinc rfl rfl rfl ?_
          refine z_goto rfl ?_
          refine Z.weak ?_ (ih _ _)
          exact wkL_c (wkL_c (wkL_c (wkL_c (wkL_c (wkL_c (wkL_n (wkL_n (wkL_n (wkL_nil _)))))))))
        · refine z_iconst rfl rfl ?_
          exact z_zret0 rfl rfl
set_option maxRecDepth 20000 in
set_option maxHeartbeats 1000000 in
theorem t_L_hangs_J306 (s0 : Int) (s1 : Int) (h : Hp) : Z M_L_hangs 0 0 306 [some (vr 0), none, none, none, none, none, none, none, none] [vi s1, vi s0] h (f_L_hangs_J306 s0 s1 h) := by
  unfold f_L_hangs_J306
  refine z_icmp_ne rfl ?_ ?_
  · refine Z.up (u2 := 2) (by decide) ?_
    refine z_iconst rfl rfl ?_
    exact z_zret0 rfl rfl
  · refine z_aload_n rfl rfl ?_
    refine z_S1i ms_L_75 (t_L_stable  _) rfl rfl rfl rfl rfl (fun r56 h56 => ?_)
    refine z_if_eq rfl ?_ ?_
    · refine z_iconst rfl rfl ?_
      exact z_zret0 rfl rfl
    · refine z_iconst rfl rfl ?_
      refine z_goto rfl ?_
      exact z_zret1 rfl rfl
set_option maxRecDepth 20000 in
set_option maxHeartbeats 1000000 in
theorem t_L_hangs_J240 (s0 : Int) (h : Hp) : Z M_L_hangs 0 0 240 [some (vr 0), none, none, none, none, none, none, none, none] [vi s0] h (f_L_hangs_J240 s0 h) := by
  unfold f_L_hangs_J240
  refine z_istore rfl rfl ?_
  refine z_iload rfl rfl ?_
  refine z_if_eq rfl ?_ ?_
  · refine Z.up (u2 := 2) (by decide) ?_
    refine z_iconst rfl rfl ?_
    exact z_zret0 rfl rfl
  · refine z_aload_n rfl rfl ?_
    refine z_iconst rfl rfl ?_
    refine z_V1i ko4 mv_L_47 kd_0 (t_X4_count _ _) rfl rfl rfl rfl rfl rfl (fun r43 h43 => ?_)
    refine z_aload_n rfl rfl ?_
    refine z_iconst rfl rfl ?_
    refine z_V1i ko4 mv_L_47 kd_0 (t_X4_count _ _) rfl rfl rfl rfl rfl rfl (fun r44 h44 => ?_)
    refine z_aload_n rfl rfl ?_
    refine z_bipush rfl rfl ?_
    refine z_V1i ko4 mv_L_47 kd_0 (t_X4_count _ _) rfl rfl rfl rfl rfl rfl (fun r45 h45 => ?_)
    refine z_iadd rfl ?_
    refine z_aload_n rfl rfl ?_
    refine z_bipush rfl rfl ?_
    refine z_V1i ko4 mv_L_47 kd_0 (t_X4_count _ _) rfl rfl rfl rfl rfl rfl (fun r46 h46 => ?_)
    refine z_iadd rfl ?_
    refine z_icmp_ne rfl ?_ ?_
    · refine Z.up (u2 := 2) (by decide) ?_
      refine z_iconst rfl rfl ?_
      exact z_zret0 rfl rfl
    · refine z_aload_n rfl rfl ?_
      refine z_bipush rfl rfl ?_
      refine z_V1i ko4 mv_L_47 kd_0 (t_X4_count _ _) rfl rfl rfl rfl rfl rfl (fun r47 h47 => ?_)
      refine z_aload_n rfl rfl ?_
      refine z_iconst rfl rfl ?_
      refine z_V1i ko4 mv_L_47 kd_0 (t_X4_count _ _) rfl rfl rfl rfl rfl rfl (fun r48 h48 => ?_)
      refine z_aload_n rfl rfl ?_
      refine z_bipush rfl rfl ?_
      refine z_V1i ko4 mv_L_47 kd_0 (t_X4_count _ _) rfl rfl rfl rfl rfl rfl (fun r49 h49 => ?_)
      refine z_iadd rfl ?_
      refine z_aload_n rfl rfl ?_
      refine z_bipush rfl rfl ?_
      refine z_V1i ko4 mv_L_47 kd_0 (t_X4_count _ _) rfl rfl rfl rfl rfl rfl (fun r50 h50 => ?_)
      refine z_iadd rfl ?_
      refine z_aload_n rfl rfl ?_
      refine z_bipush rfl rfl ?_
      refine z_V1i ko4 mv_L_47 kd_0 (t_X4_count _ _) rfl rfl rfl rfl rfl rfl (fun r51 h51 => ?_)
      refine z_iadd rfl ?_
      refine z_icmp_ne rfl ?_ ?_
      · refine Z.up (u2 := 2) (by decide) ?_
        refine z_iconst rfl rfl ?_
        exact z_zret0 rfl rfl
      · refine z_aload_n rfl rfl ?_
        refine z_bipush rfl rfl ?_
        refine z_V1i ko4 mv_L_47 kd_0 (t_X4_count _ _) rfl rfl rfl rfl rfl rfl (fun r52 h52 => ?_)
        refine z_aload_n rfl rfl ?_
        refine z_bipush rfl rfl ?_
        refine z_V1i ko4 mv_L_47 kd_0 (t_X4_count _ _) rfl rfl rfl rfl rfl rfl (fun r53 h53 => ?_)
        refine z_aload_n rfl rfl ?_
        refine z_bipush rfl rfl ?_
        refine z_V1i ko4 mv_L_47 kd_0 (t_X4_count _ _) rfl rfl rfl rfl rfl rfl (fun r54 h54 => ?_)
        refine z_iadd rfl ?_
        refine z_aload_n rfl rfl ?_
        refine z_bipush rfl rfl ?_
        refine z_V1i ko4 mv_L_47 kd_0 (t_X4_count _ _) rfl rfl rfl rfl rfl rfl (fun r55 h55 => ?_)
        refine z_iadd rfl ?_
        refine z_bipush rfl rfl ?_
        refine z_icmp_ge rfl ?_ ?_
        · refine z_bipush rfl rfl ?_
          refine Z.weak ?_ (t_L_hangs_J306  _ _  _)
          exact wkL_c (wkL_n (wkL_n (wkL_n (wkL_n (wkL_n (wkL_n (wkL_n (wkL_n (wkL_nil _)))))))))
        · refine z_aload_n rfl rfl ?_
          refine z_bipush rfl rfl ?_
          refine z_V1i ko4 mv_L_47 kd_0 (t_X4_count _ _) rfl rfl rfl rfl rfl rfl (fun r57 h57 => ?_)
          refine z_aload_n rfl rfl ?_
          refine z_bipush rfl rfl ?_
          refine z_V1i ko4 mv_L_47 kd_0 (t_X4_count _ _) rfl rfl rfl rfl rfl rfl (fun r58 h58 => ?_)
          refine z_iadd rfl ?_
          refine z_aload_n rfl rfl ?_
          refine z_bipush rfl rfl ?_
          refine z_V1i ko4 mv_L_47 kd_0 (t_X4_count _ _) rfl rfl rfl rfl rfl rfl (fun r59 h59 => ?_)
          refine z_iadd rfl ?_
          refine z_goto rfl ?_
          refine Z.weak ?_ (t_L_hangs_J306  _ _  _)
          exact wkL_c (wkL_n (wkL_n (wkL_n (wkL_n (wkL_n (wkL_n (wkL_n (wkL_n (wkL_nil _)))))))))
set_option maxRecDepth 20000 in
set_option maxHeartbeats 1000000 in
theorem t_L_hangs_J239  (h : Hp) : Z M_L_hangs 0 0 239 [some (vr 0), none, none, none, none, none, none, none, none] [] h (f_L_hangs_J239  h) := by
  unfold f_L_hangs_J239
  refine z_iconst rfl rfl ?_
  refine Z.weak ?_ (t_L_hangs_J240  _  _)
  exact wkL_c (wkL_n (wkL_n (wkL_n (wkL_n (wkL_n (wkL_n (wkL_n (wkL_n (wkL_nil _)))))))))
set_option maxRecDepth 20000 in
set_option maxHeartbeats 1000000 in
theorem t_L_hangs_J237  (h : Hp) : Z M_L_hangs 0 0 237 [some (vr 0), none, none, none, none, none, none, none, none] [] h (f_L_hangs_J237  h) := by
  unfold f_L_hangs_J237
  refine z_iconst rfl rfl ?_
  refine z_goto rfl ?_
  refine Z.weak ?_ (t_L_hangs_J240  _  _)
  exact wkL_c (wkL_n (wkL_n (wkL_n (wkL_n (wkL_n (wkL_n (wkL_n (wkL_n (wkL_nil _)))))))))
set_option maxRecDepth 20000 in
set_option maxHeartbeats 1000000 in
theorem t_L_hangs_J220 (x4 : Int) (s0 : Int) (s1 : Int) (h : Hp) : Z M_L_hangs 0 0 220 [some (vr 0), none, none, none, some (vi x4), none, none, none, none] [vi s1, vi s0] h (f_L_hangs_J220 x4 s0 s1 h) := by
  unfold f_L_hangs_J220
  refine z_icmp_ne rfl ?_ ?_
  · refine Z.weak ?_ (t_L_hangs_J239   _)
    exact wkL_c (wkL_n (wkL_n (wkL_n (wkL_n (wkL_n (wkL_n (wkL_n (wkL_n (wkL_nil _)))))))))
  · refine z_aload_n rfl rfl ?_
    refine z_iconst rfl rfl ?_
    refine z_V1i ko4 mv_L_47 kd_0 (t_X4_count _ _) rfl rfl rfl rfl rfl rfl (fun r63 h63 => ?_)
    refine z_if_ne rfl ?_ ?_
    · refine z_aload_n rfl rfl ?_
      refine z_aload_n rfl rfl ?_
      refine z_V0i ko4 mv_L_72 kd_0 (t_X4_oddest  _) rfl rfl rfl rfl rfl rfl (fun r64 h64 => ?_)
      refine z_bipush rfl rfl ?_
      refine z_V2i ko4 mv_L_50 kd_0 (t_X4_umbrella _ _ _) rfl rfl rfl rfl rfl rfl (fun r65 h65 => ?_)
      refine z_iload rfl rfl ?_
      refine z_icmp_ne rfl ?_ ?_
      · refine Z.weak ?_ (t_L_hangs_J239   _)
        exact wkL_c (wkL_n (wkL_n (wkL_n (wkL_n (wkL_n (wkL_n (wkL_n (wkL_n (wkL_nil _)))))))))
      · refine Z.weak ?_ (t_L_hangs_J237   _)
        exact wkL_c (wkL_n (wkL_n (wkL_n (wkL_n (wkL_n (wkL_n (wkL_n (wkL_n (wkL_nil _)))))))))
    · refine z_aload_n rfl rfl ?_
      refine z_V0i ko4 mv_L_72 kd_0 (t_X4_oddest  _) rfl rfl rfl rfl rfl rfl (fun r66 h66 => ?_)
      refine z_ldc rfl cst_L_68 rfl ?_
      refine z_icmp_ne rfl ?_ ?_
      · refine Z.weak ?_ (t_L_hangs_J239   _)
        exact wkL_c (wkL_n (wkL_n (wkL_n (wkL_n (wkL_n (wkL_n (wkL_n (wkL_n (wkL_nil _)))))))))
      · refine z_goto rfl ?_
        refine Z.weak ?_ (t_L_hangs_J237   _)
        exact wkL_c (wkL_n (wkL_n (wkL_n (wkL_n (wkL_n (wkL_n (wkL_n (wkL_n (wkL_nil _)))))))))
set_option maxRecDepth 20000 in
set_option maxHeartbeats 1000000 in
theorem t_L_hangs  (h : Hp) : Ct M_L_hangs [vr 0] h (f_L_hangs  h) := by
  refine Ct.mk ok_L_hangs pl_L_hangs rfl rfl ?_
  show Z M_L_hangs 0 0 0 [some (vr 0), none, none, none, none, none, none, none, none] [] h (f_L_hangs  h)
  unfold f_L_hangs
  refine z_iconst rfl rfl ?_
  refine z_istore_n rfl rfl ?_
  refine z_iconst rfl rfl ?_
  refine z_istore_n rfl rfl ?_
  refine z_iconst rfl rfl ?_
  refine z_istore_n rfl rfl ?_
  refine z_iconst rfl rfl ?_
  refine z_istore rfl rfl ?_
  refine z_iconst rfl rfl ?_
  refine z_istore rfl rfl ?_
  refine Z.weak ?_ (t_L_hangs_L10   _  ?_  fu _ _ _ _ _ _)
  · exact wkL_c (wkL_c (wkL_c (wkL_c (wkL_c (wkL_c (wkL_n (wkL_n (wkL_n (wkL_nil _)))))))))
  · intro y21 y22 y23 y24 h25
    refine z_iconst rfl rfl ?_
    refine z_istore rfl rfl ?_
    refine Z.weak ?_ (t_L_hangs_L126  _ _  _  ?_  fu _ _ _ _)
    · exact wkL_c (wkL_c (wkL_c (wkL_c (wkL_c (wkL_c (wkL_n (wkL_n (wkL_n (wkL_nil _)))))))))
    · intro y33 y34 h35
      refine z_iconst rfl rfl ?_
      refine z_istore rfl rfl ?_
      refine Z.weak ?_ (t_L_hangs_L170  _ _ _ _  _  ?_  fu _ _)
      · exact wkL_c (wkL_c (wkL_c (wkL_c (wkL_c (wkL_c (wkL_n (wkL_n (wkL_n (wkL_nil _)))))))))
      · intro h41
        refine z_aload_n rfl rfl ?_
        refine z_iconst rfl rfl ?_
        refine z_V1i ko4 mv_L_47 kd_0 (t_X4_count _ _) rfl rfl rfl rfl rfl rfl (fun r42 h42 => ?_)
        refine z_istore rfl rfl ?_
        refine z_iload_n rfl rfl ?_
        refine z_if_ne rfl ?_ ?_
        · refine Z.weak ?_ (t_L_hangs_J239   _)
          exact wkL_c (wkL_n (wkL_n (wkL_n (wkL_n (wkL_n (wkL_n (wkL_n (wkL_n (wkL_nil _)))))))))
        · refine z_iload_n rfl rfl ?_
          refine z_if_ne rfl ?_ ?_
          · refine Z.weak ?_ (t_L_hangs_J239   _)
            exact wkL_c (wkL_n (wkL_n (wkL_n (wkL_n (wkL_n (wkL_n (wkL_n (wkL_n (wkL_nil _)))))))))
          · refine z_iload rfl rfl ?_
            refine z_aload_n rfl rfl ?_
            refine z_iconst rfl rfl ?_
            refine z_V1i ko4 mv_L_47 kd_0 (t_X4_count _ _) rfl rfl rfl rfl rfl rfl (fun r60 h60 => ?_)
            refine z_icmp_ne rfl ?_ ?_
            · refine Z.weak ?_ (t_L_hangs_J239   _)
              exact wkL_c (wkL_n (wkL_n (wkL_n (wkL_n (wkL_n (wkL_n (wkL_n (wkL_n (wkL_nil _)))))))))
            · refine z_aload_n rfl rfl ?_
              refine z_V0i ko4 mv_L_65 kd_0 (t_X4_mean  _) rfl rfl rfl rfl rfl rfl (fun r61 h61 => ?_)
              refine z_iload rfl rfl ?_
              refine z_if_ne rfl ?_ ?_
              · refine z_iload_n rfl rfl ?_
                refine z_iload rfl rfl ?_
                refine z_S2i ms_L_69 (t_L_quotient _ _ _) rfl rfl rfl rfl rfl (fun r62 h62 => ?_)
                refine Z.weak ?_ (t_L_hangs_J220  _ _ _  _)
                exact wkL_c (wkL_n (wkL_n (wkL_n (wkL_c (wkL_n (wkL_n (wkL_n (wkL_n (wkL_nil _)))))))))
              · refine z_ldc rfl cst_L_68 rfl ?_
                refine z_goto rfl ?_
                refine Z.weak ?_ (t_L_hangs_J220  _ _ _  _)
                exact wkL_c (wkL_n (wkL_n (wkL_n (wkL_c (wkL_n (wkL_n (wkL_n (wkL_n (wkL_nil _)))))))))
