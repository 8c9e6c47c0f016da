/-! printed by wip/gen/gen.py: the bytecode does what the functions say -/
set_option maxRecDepth 20000 in
set_option maxHeartbeats 1000000 in
theorem t_X1_become (x0 : Nat) (k0 : kd x0 = (1, 0)) (x1 : Nat) (k1 : kd x1 = (1, 0)) (h : Hp) : Ct M_X1_become [vr x0, vr x1] h (f_X1_become x0 x1 h) := by
  refine Ct.mk ok_X1_become pl_X1_become rfl rfl ?_
  show Z M_X1_become 0 [some (vr x0), some (vr x1)] [] h (f_X1_become x0 x1 h)
  unfold f_X1_become
  refine z_aload_n rfl rfl ?_
  refine z_ifnull rfl ?_
  refine z_aload_n rfl rfl ?_
  refine z_getR rfl fl_X1_12 rfl k0 ?_
  refine z_aload_n rfl rfl ?_
  refine z_getR rfl fl_X1_12 rfl k1 ?_
  refine z_V1v ko2 mv_X1_40 (kO_1 k0) (t_X2_become (x0 + 1) (kO_1 k0) (x1 + 1) (kO_1 k1) _) rfl rfl rfl rfl rfl (fun _ h1 => ?_)
  refine z_aload_n rfl rfl ?_
  refine z_getR rfl fl_X1_18 rfl k0 ?_
  refine z_aload_n rfl rfl ?_
  refine z_getR rfl fl_X1_18 rfl k1 ?_
  refine z_V1v ko2 mv_X1_40 (kO_3 k0) (t_X2_become (x0 + 3) (kO_3 k0) (x1 + 3) (kO_3 k1) _) rfl rfl rfl rfl rfl (fun _ h2 => ?_)
  refine z_aload_n rfl rfl ?_
  refine z_getR rfl fl_X1_21 rfl k0 ?_
  refine z_aload_n rfl rfl ?_
  refine z_getR rfl fl_X1_21 rfl k1 ?_
  refine z_V1v ko2 mv_X1_40 (kO_5 k0) (t_X2_become (x0 + 5) (kO_5 k0) (x1 + 5) (kO_5 k1) _) rfl rfl rfl rfl rfl (fun _ h3 => ?_)
  refine z_aload_n rfl rfl ?_
  refine z_getR rfl fl_X1_24 rfl k1 ?_
  refine z_iconst rfl rfl ?_
  refine z_aload_n rfl rfl ?_
  refine z_getR rfl fl_X1_24 rfl k0 ?_
  refine z_iconst rfl rfl ?_
  refine z_bipush rfl rfl ?_
  refine z_copy (n := 7) (kO_7 k1) (kO_7 k0) cp_X1_34 rfl rfl rfl (fun h4 => ?_)
  refine z_aload_n rfl rfl ?_
  refine z_getR rfl fl_X1_28 rfl k1 ?_
  refine z_iconst rfl rfl ?_
  refine z_aload_n rfl rfl ?_
  refine z_getR rfl fl_X1_28 rfl k0 ?_
  refine z_iconst rfl rfl ?_
  refine z_bipush rfl rfl ?_
  refine z_copy (n := 12) (kO_8 k1) (kO_8 k0) cp_X1_34 rfl rfl rfl (fun h5 => ?_)
  exact z_return rfl rfl
set_option maxRecDepth 20000 in
set_option maxHeartbeats 1000000 in
theorem t_X1_changeSetting (x0 : Nat) (k0 : kd x0 = (1, 0)) (x1 : Int) (x2 : Int) (h : Hp) : Ct M_X1_changeSetting [vr x0, vi x1, vi x2] h (f_X1_changeSetting x0 x1 x2 h) := by
  refine Ct.mk ok_X1_changeSetting pl_X1_changeSetting rfl rfl ?_
  show Z M_X1_changeSetting 0 [some (vr x0), some (vi x1), some (vi x2), none] [] h (f_X1_changeSetting x0 x1 x2 h)
  unfold f_X1_changeSetting
  refine z_iload_n rfl rfl ?_
  refine z_if_lt rfl ?_ ?_
  · refine z_ldc rfl cst_X1_59 rfl ?_
    exact z_ireturn rfl rfl
  · refine z_iload_n rfl rfl ?_
    refine z_aload_n rfl rfl ?_
    refine z_getR rfl fl_X1_24 rfl k0 ?_
    refine z_alen (c := 0) rfl (kO_7 k0) (by omega) ?_
    refine z_icmp_ge rfl ?_ ?_
    · refine z_ldc rfl cst_X1_59 rfl ?_
      exact z_ireturn rfl rfl
    · refine z_iload_n rfl rfl ?_
      refine z_sget (i := 85) fs_X1_87 rfl rfl ?_
      refine z_iload_n rfl rfl ?_
      refine z_N2i mn_X1_90 (t_X4_numberAt 85 7 (Or.inr kd_85) _ _) rfl rfl rfl rfl (fun r1 h1 => ?_)
      refine z_icmp_lt rfl ?_ ?_
      · refine z_ldc rfl cst_X1_59 rfl ?_
        exact z_ireturn rfl rfl
      · refine z_iload_n rfl rfl ?_
        refine z_sget (i := 86) fs_X1_94 rfl rfl ?_
        refine z_iload_n rfl rfl ?_
        refine z_N2i mn_X1_90 (t_X4_numberAt 86 7 (Or.inr kd_86) _ _) rfl rfl rfl rfl (fun r2 h2 => ?_)
        refine z_icmp_le rfl ?_ ?_
        · refine z_aload_n rfl rfl ?_
          refine z_getR rfl fl_X1_24 rfl k0 ?_
          refine z_iload_n rfl rfl ?_
          refine z_iaload rfl (kO_7 k0) ?_
          refine z_istore_nL rfl rfl (fun y3 => ?_)
          refine z_aload_n rfl rfl ?_
          refine z_getR rfl fl_X1_24 rfl k0 ?_
          refine z_iload_n rfl rfl ?_
          refine z_iload_n rfl rfl ?_
          refine z_iastoreL (kO_7 k0) rfl (fun h4 => ?_)
          refine z_iload_n rfl rfl ?_
          exact z_ireturn rfl rfl
        · refine z_ldc rfl cst_X1_59 rfl ?_
          exact z_ireturn rfl rfl
set_option maxRecDepth 20000 in
set_option maxHeartbeats 1000000 in
theorem t_X2_has (x0 : Nat) (k0 : kd x0 = (2, 0)) (x1 : Int) (h : Hp) : Ct M_X2_has [vr x0, vi x1] h (f_X2_has x0 x1 h) := by
  refine Ct.mk ok_X2_has pl_X2_has rfl rfl ?_
  show Z M_X2_has 0 [some (vr x0), some (vi x1)] [] h (f_X2_has x0 x1 h)
  unfold f_X2_has
  refine z_iload_n rfl rfl ?_
  refine z_if_lt rfl ?_ ?_
  · refine z_iconst rfl rfl ?_
    exact z_zret0 rfl rfl
  · refine z_iload_n rfl rfl ?_
    refine z_aload_n rfl rfl ?_
    refine z_getI rfl fl_X2_15 rfl k0 ?_
    refine z_icmp_ge rfl ?_ ?_
    · refine z_iconst rfl rfl ?_
      exact z_zret0 rfl rfl
    · refine z_iconst rfl rfl ?_
      refine z_goto rfl ?_
      exact z_zret1 rfl rfl
set_option maxRecDepth 20000 in
set_option maxHeartbeats 1000000 in
theorem t_X2_remove_L11 (x0 : Nat) (k0 : kd x0 = (2, 0)) : ∀ (n : Nat) (x2 : Int) (h : Hp), Z M_X2_remove 11 [some (vr x0), none, some (vi x2)] [] h (f_X2_remove_L11 x0 n x2 h) := by
  intro n
  induction n with
  | zero => intro x2 h; exact Z.nix
  | succ n ih =>
    intro x2 h
    rw [f_X2_remove_L11_s]
    refine z_iload_n rfl rfl ?_
    refine z_bipush rfl rfl ?_
    refine z_iadd rfl ?_
    refine z_aload_n rfl rfl ?_
    refine z_getR rfl fl_X2_9 rfl k0 ?_
    refine z_alen (c := 0) rfl (kR_1 k0) (by omega) ?_
    refine z_icmp_ge rfl ?_ ?_
    · refine z_aload_n rfl rfl ?_
      refine z_dup rfl rfl ?_
      refine z_getI rfl fl_X2_15 rfl k0 ?_
      refine z_iconst rfl rfl ?_
      refine z_isub rfl ?_
      refine z_putL fi_X2_15 rfl k0 rfl (fun h2 => ?_)
      exact z_return rfl rfl
    · refine z_aload_n rfl rfl ?_
      refine z_getR rfl fl_X2_9 rfl k0 ?_
      refine z_iload_n rfl rfl ?_
      refine z_aload_n rfl rfl ?_
      refine z_getR rfl fl_X2_9 rfl k0 ?_
      refine z_iload_n rfl rfl ?_
      refine z_bipush rfl rfl ?_
      refine z_iadd rfl ?_
      refine z_iaload rfl (kR_1 k0) ?_
      refine z_iastoreL (kR_1 k0) rfl (fun h3 => ?_)
      refine z_iinc rfl rfl rfl ?_
      refine z_goto rfl ?_
      refine Z.weak ?_ (ih _ _)
      exact wkL_c (wkL_n (wkL_c (wkL_nil _)))
set_option maxRecDepth 20000 in
set_option maxHeartbeats 1000000 in
theorem t_X2_remove (x0 : Nat) (k0 : kd x0 = (2, 0)) (x1 : Int) (h : Hp) : Ct M_X2_remove [vr x0, vi x1] h (f_X2_remove x0 x1 h) := by
  refine Ct.mk ok_X2_remove pl_X2_remove rfl rfl ?_
  show Z M_X2_remove 0 [some (vr x0), some (vi x1), none] [] h (f_X2_remove x0 x1 h)
  unfold f_X2_remove
  refine z_iload_n rfl rfl ?_
  refine z_if_lt rfl ?_ ?_
  · exact z_return rfl rfl
  · refine z_iload_n rfl rfl ?_
    refine z_aload_n rfl rfl ?_
    refine z_getI rfl fl_X2_15 rfl k0 ?_
    refine z_icmp_lt rfl ?_ ?_
    · refine z_iload_n rfl rfl ?_
      refine z_bipush rfl rfl ?_
      refine z_imul rfl ?_
      refine z_istore_nL rfl rfl (fun y1 => ?_)
      refine Z.weak ?_ (t_X2_remove_L11 x0 k0     fu _ _)
      · exact wkL_c (wkL_n (wkL_c (wkL_nil _)))
    · exact z_return rfl rfl
set_option maxRecDepth 20000 in
set_option maxHeartbeats 1000000 in
theorem t_X1_dropClaim (x0 : Nat) (k0 : kd x0 = (1, 0)) (x1 : Int) (h : Hp) : Ct M_X1_dropClaim [vr x0, vi x1] h (f_X1_dropClaim x0 x1 h) := by
  refine Ct.mk ok_X1_dropClaim pl_X1_dropClaim rfl rfl ?_
  show Z M_X1_dropClaim 0 [some (vr x0), some (vi x1)] [] h (f_X1_dropClaim x0 x1 h)
  unfold f_X1_dropClaim
  refine z_aload_n rfl rfl ?_
  refine z_getR rfl fl_X1_18 rfl k0 ?_
  refine z_iload_n rfl rfl ?_
  refine z_V1i ko2 mv_X1_73 (kO_3 k0) (t_X2_has (x0 + 3) (kO_3 k0) _ _) rfl rfl rfl rfl rfl (fun r1 h1 => ?_)
  refine z_if_ne rfl ?_ ?_
  · refine z_aload_n rfl rfl ?_
    refine z_getR rfl fl_X1_18 rfl k0 ?_
    refine z_iload_n rfl rfl ?_
    refine z_V1v ko2 mv_X1_83 (kO_3 k0) (t_X2_remove (x0 + 3) (kO_3 k0) _ _) rfl rfl rfl rfl rfl (fun _ h2 => ?_)
    refine z_aload_n rfl rfl ?_
    refine z_bipush rfl rfl ?_
    refine z_iconst rfl rfl ?_
    refine z_V2v ko1 mv_X1_61 k0 (t_X1_addTo x0 k0 _ _ _) rfl rfl rfl rfl rfl (fun _ h3 => ?_)
    refine z_aload_n rfl rfl ?_
    refine z_getR rfl fl_X1_18 rfl k0 ?_
    refine z_getI rfl fl_X1_44 rfl (kO_3 k0) ?_
    exact z_ireturn rfl rfl
  · refine z_ldc rfl cst_X1_59 rfl ?_
    exact z_ireturn rfl rfl
set_option maxRecDepth 20000 in
set_option maxHeartbeats 1000000 in
theorem t_X1_sum (x0 : Nat) (k0 : kd x0 = (1, 0)) (x1 : Int) (h : Hp) : Ct M_X1_sum [vr x0, vi x1] h (f_X1_sum x0 x1 h) := by
  refine Ct.mk ok_X1_sum pl_X1_sum rfl rfl ?_
  show Z M_X1_sum 0 [some (vr x0), some (vi x1)] [] h (f_X1_sum x0 x1 h)
  unfold f_X1_sum
  refine z_iload_n rfl rfl ?_
  refine z_if_lt rfl ?_ ?_
  · refine z_iconst rfl rfl ?_
    exact z_ireturn rfl rfl
  · refine z_iload_n rfl rfl ?_
    refine z_aload_n rfl rfl ?_
    refine z_getR rfl fl_X1_28 rfl k0 ?_
    refine z_alen (c := 0) rfl (kO_8 k0) (by omega) ?_
    refine z_icmp_ge rfl ?_ ?_
    · refine z_iconst rfl rfl ?_
      exact z_ireturn rfl rfl
    · refine z_aload_n rfl rfl ?_
      refine z_getR rfl fl_X1_28 rfl k0 ?_
      refine z_iload_n rfl rfl ?_
      refine z_iaload rfl (kO_8 k0) ?_
      refine z_goto rfl ?_
      exact z_ireturn rfl rfl
set_option maxRecDepth 20000 in
set_option maxHeartbeats 1000000 in
theorem t_X2_append (x0 : Nat) (k0 : kd x0 = (2, 0)) (x1 : Int) (x2 : Int) (x3 : Int) (x4 : Int) (h : Hp) : Ct M_X2_append [vr x0, vi x1, vi x2, vi x3, vi x4] h (f_X2_append x0 x1 x2 x3 x4 h) := by
  refine Ct.mk ok_X2_append pl_X2_append rfl rfl ?_
  show Z M_X2_append 0 [some (vr x0), some (vi x1), some (vi x2), some (vi x3), some (vi x4), none] [] h (f_X2_append x0 x1 x2 x3 x4 h)
  unfold f_X2_append
  refine z_aload_n rfl rfl ?_
  refine z_getI rfl fl_X2_15 rfl k0 ?_
  refine z_bipush rfl rfl ?_
  refine z_imul rfl ?_
  refine z_istoreL rfl rfl (fun y1 => ?_)
  refine z_iload rfl rfl ?_
  refine z_if_lt rfl ?_ ?_
  · refine z_iconst rfl rfl ?_
    exact z_ireturn rfl rfl
  · refine z_iload rfl rfl ?_
    refine z_bipush rfl rfl ?_
    refine z_iadd rfl ?_
    refine z_aload_n rfl rfl ?_
    refine z_getR rfl fl_X2_9 rfl k0 ?_
    refine z_alen (c := 0) rfl (kR_1 k0) (by omega) ?_
    refine z_icmp_le rfl ?_ ?_
    · refine z_aload_n rfl rfl ?_
      refine z_getR rfl fl_X2_9 rfl k0 ?_
      refine z_iload rfl rfl ?_
      refine z_iload_n rfl rfl ?_
      refine z_iastoreL (kR_1 k0) rfl (fun h2 => ?_)
      refine z_aload_n rfl rfl ?_
      refine z_getR rfl fl_X2_9 rfl k0 ?_
      refine z_iload rfl rfl ?_
      refine z_iconst rfl rfl ?_
      refine z_iadd rfl ?_
      refine z_iload_n rfl rfl ?_
      refine z_iastoreL (kR_1 k0) rfl (fun h3 => ?_)
      refine z_aload_n rfl rfl ?_
      refine z_getR rfl fl_X2_9 rfl k0 ?_
      refine z_iload rfl rfl ?_
      refine z_iconst rfl rfl ?_
      refine z_iadd rfl ?_
      refine z_iload_n rfl rfl ?_
      refine z_iastoreL (kR_1 k0) rfl (fun h4 => ?_)
      refine z_aload_n rfl rfl ?_
      refine z_getR rfl fl_X2_9 rfl k0 ?_
      refine z_iload rfl rfl ?_
      refine z_iconst rfl rfl ?_
      refine z_iadd rfl ?_
      refine z_iload rfl rfl ?_
      refine z_iastoreL (kR_1 k0) rfl (fun h5 => ?_)
      refine z_aload_n rfl rfl ?_
      refine z_getR rfl fl_X2_9 rfl k0 ?_
      refine z_iload rfl rfl ?_
      refine z_iconst rfl rfl ?_
      refine z_iadd rfl ?_
      refine z_iconst rfl rfl ?_
      refine z_iastoreL (kR_1 k0) rfl (fun h6 => ?_)
      refine z_aload_n rfl rfl ?_
      refine z_getR rfl fl_X2_9 rfl k0 ?_
      refine z_iload rfl rfl ?_
      refine z_iconst rfl rfl ?_
      refine z_iadd rfl ?_
      refine z_iconst rfl rfl ?_
      refine z_iastoreL (kR_1 k0) rfl (fun h7 => ?_)
      refine z_aload_n rfl rfl ?_
      refine z_dup rfl rfl ?_
      refine z_getI rfl fl_X2_15 rfl k0 ?_
      refine z_iconst rfl rfl ?_
      refine z_iadd rfl ?_
      refine z_putL fi_X2_15 rfl k0 rfl (fun h8 => ?_)
      refine z_aload_n rfl rfl ?_
      refine z_getI rfl fl_X2_15 rfl k0 ?_
      refine z_iconst rfl rfl ?_
      refine z_isub rfl ?_
      exact z_ireturn rfl rfl
    · refine z_iconst rfl rfl ?_
      exact z_ireturn rfl rfl
set_option maxRecDepth 20000 in
set_option maxHeartbeats 1000000 in
theorem t_X1_enter_J9 (x0 : Nat) (k0 : kd x0 = (1, 0)) (x1 : Int) (x2 : Int) (x3 : Int) (h : Hp) : Z M_X1_enter 9 [some (vr x0), some (vi x1), some (vi x2), some (vi x3)] [] h (f_X1_enter_J9 x0 x1 x2 x3 h) := by
  unfold f_X1_enter_J9
  refine z_aload_n rfl rfl ?_
  refine z_getR rfl fl_X1_21 rfl k0 ?_
  refine z_aload_n rfl rfl ?_
  refine z_iconst rfl rfl ?_
  refine z_V1i ko1 mv_X1_100 k0 (t_X1_sum x0 k0 _ _) rfl rfl rfl rfl rfl (fun r1 h1 => ?_)
  refine z_iload_n rfl rfl ?_
  refine z_iload_n rfl rfl ?_
  refine z_iload_n rfl rfl ?_
  refine z_V4i ko2 mv_X1_65 (kO_5 k0) (t_X2_append (x0 + 5) (kO_5 k0) _ _ _ _ _) rfl rfl rfl rfl rfl (fun r2 h2 => ?_)
  refine z_pop rfl rfl ?_
  refine z_aload_n rfl rfl ?_
  refine z_bipush rfl rfl ?_
  refine z_iload_n rfl rfl ?_
  refine z_V2v ko1 mv_X1_61 k0 (t_X1_addTo x0 k0 _ _ _) rfl rfl rfl rfl rfl (fun _ h3 => ?_)
  exact z_return rfl rfl
set_option maxRecDepth 20000 in
set_option maxHeartbeats 1000000 in
theorem t_X1_enter (x0 : Nat) (k0 : kd x0 = (1, 0)) (x1 : Int) (x2 : Int) (x3 : Int) (h : Hp) : Ct M_X1_enter [vr x0, vi x1, vi x2, vi x3] h (f_X1_enter x0 x1 x2 x3 h) := by
  refine Ct.mk ok_X1_enter pl_X1_enter rfl rfl ?_
  show Z M_X1_enter 0 [some (vr x0), some (vi x1), some (vi x2), some (vi x3)] [] h (f_X1_enter x0 x1 x2 x3 h)
  unfold f_X1_enter
  refine z_aload_n rfl rfl ?_
  refine z_getR rfl fl_X1_21 rfl k0 ?_
  refine z_getI rfl fl_X1_44 rfl (kO_5 k0) ?_
  refine z_bipush rfl rfl ?_
  refine z_icmp_lt rfl ?_ ?_
  · refine Z.weak ?_ (t_X1_enter_J9 x0 k0 _ _ _  _)
    exact wkL_c (wkL_c (wkL_c (wkL_c (wkL_nil _))))
  · refine z_aload_n rfl rfl ?_
    refine z_getR rfl fl_X1_21 rfl k0 ?_
    refine z_iconst rfl rfl ?_
    refine z_V1v ko2 mv_X1_83 (kO_5 k0) (t_X2_remove (x0 + 5) (kO_5 k0) _ _) rfl rfl rfl rfl rfl (fun _ h4 => ?_)
    refine Z.weak ?_ (t_X1_enter_J9 x0 k0 _ _ _  _)
    exact wkL_c (wkL_c (wkL_c (wkL_c (wkL_nil _))))
set_option maxRecDepth 20000 in
set_option maxHeartbeats 1000000 in
theorem t_X1_endOld_L5 (x0 : Nat) (k0 : kd x0 = (1, 0)) (x1 : Nat) (k1 : kd x1 = (2, 0)) (x2 : Int) (x3 : Int) (x4 : Int) : ∀ (n : Nat) (x5 : Int) (x6 : Int) (h : Hp), Z M_X1_endOld 5 [some (vr x0), some (vr x1), some (vi x2), some (vi x3), some (vi x4), some (vi x5), some (vi x6), none] [] h (f_X1_endOld_L5 x0 x1 x2 x3 x4 n x5 x6 h) := by
  intro n
  induction n with
  | zero => intro x5 x6 h; exact Z.nix
  | succ n ih =>
    intro x5 x6 h
    rw [f_X1_endOld_L5_s]
    refine z_iload rfl rfl ?_
    refine z_if_le rfl ?_ ?_
    · exact z_return rfl rfl
    · refine z_aload_n rfl rfl ?_
      refine z_iload rfl rfl ?_
      refine z_iconst rfl rfl ?_
      refine z_V2i ko2 mv_X1_48 k1 (t_X2_cell x1 k1 _ _ _) rfl rfl rfl rfl rfl (fun r2 h2 => ?_)
      refine z_istore rfl rfl ?_
      refine z_iload rfl rfl ?_
      refine z_aload_n rfl rfl ?_
      refine z_iconst rfl rfl ?_
      refine z_V1i ko1 mv_X1_107 k0 (t_X1_setting x0 k0 _ _) rfl rfl rfl rfl rfl (fun r3 h3 => ?_)
      refine z_icmp_ge rfl ?_ ?_
      · refine z_aload_n rfl rfl ?_
        refine z_iload rfl rfl ?_
        refine z_V1v ko2 mv_X1_83 k1 (t_X2_remove x1 k1 _ _) rfl rfl rfl rfl rfl (fun _ h4 => ?_)
        refine z_aload_n rfl rfl ?_
        refine z_iload_n rfl rfl ?_
        refine z_iconst rfl rfl ?_
        refine z_V2v ko1 mv_X1_61 k0 (t_X1_addTo x0 k0 _ _ _) rfl rfl rfl rfl rfl (fun _ h5 => ?_)
        refine z_aload_n rfl rfl ?_
        refine z_iload_n rfl rfl ?_
        refine z_iload rfl rfl ?_
        refine z_iload rfl rfl ?_
        refine z_V3v ko1 mv_X1_114 k0 (t_X1_enter x0 k0 _ _ _ _) rfl rfl rfl rfl rfl (fun _ h6 => ?_)
        refine z_iinc rfl rfl rfl ?_
        refine z_goto rfl ?_
        refine Z.weak ?_ (ih _ _ _)
        exact wkL_c (wkL_c (wkL_c (wkL_c (wkL_c (wkL_c (wkL_c (wkL_n (wkL_nil _))))))))
      · refine z_iinc rfl rfl rfl ?_
        refine z_goto rfl ?_
        refine z_iinc rfl rfl rfl ?_
        refine z_goto rfl ?_
        refine Z.weak ?_ (ih _ _ _)
        exact wkL_c (wkL_c (wkL_c (wkL_c (wkL_c (wkL_c (wkL_c (wkL_n (wkL_nil _))))))))
set_option maxRecDepth 20000 in
set_option maxHeartbeats 1000000 in
theorem t_X1_endOld (x0 : Nat) (k0 : kd x0 = (1, 0)) (x1 : Nat) (k1 : kd x1 = (2, 0)) (x2 : Int) (x3 : Int) (x4 : Int) (h : Hp) : Ct M_X1_endOld [vr x0, vr x1, vi x2, vi x3, vi x4] h (f_X1_endOld x0 x1 x2 x3 x4 h) := by
  refine Ct.mk ok_X1_endOld pl_X1_endOld rfl rfl ?_
  show Z M_X1_endOld 0 [some (vr x0), some (vr x1), some (vi x2), some (vi x3), some (vi x4), none, none, none] [] h (f_X1_endOld x0 x1 x2 x3 x4 h)
  unfold f_X1_endOld
  refine z_iconst rfl rfl ?_
  refine z_istore rfl rfl ?_
  refine z_aload_n rfl rfl ?_
  refine z_getI rfl fl_X1_44 rfl k1 ?_
  refine z_istoreL rfl rfl (fun y1 => ?_)
  refine Z.weak ?_ (t_X1_endOld_L5 x0 k0 x1 k1 _ _ _     fu _ _ _)
  · exact wkL_c (wkL_c (wkL_c (wkL_c (wkL_c (wkL_c (wkL_c (wkL_n (wkL_nil _))))))))
set_option maxRecDepth 20000 in
set_option maxHeartbeats 1000000 in
theorem t_X2_put (x0 : Nat) (k0 : kd x0 = (2, 0)) (x1 : Int) (x2 : Int) (x3 : Int) (h : Hp) : Ct M_X2_put [vr x0, vi x1, vi x2, vi x3] h (f_X2_put x0 x1 x2 x3 h) := by
  refine Ct.mk ok_X2_put pl_X2_put rfl rfl ?_
  show Z M_X2_put 0 [some (vr x0), some (vi x1), some (vi x2), some (vi x3), none] [] h (f_X2_put x0 x1 x2 x3 h)
  unfold f_X2_put
  refine z_iload_n rfl rfl ?_
  refine z_if_lt rfl ?_ ?_
  · exact z_return rfl rfl
  · refine z_iload_n rfl rfl ?_
    refine z_aload_n rfl rfl ?_
    refine z_getI rfl fl_X2_15 rfl k0 ?_
    refine z_icmp_ge rfl ?_ ?_
    · exact z_return rfl rfl
    · refine z_iload_n rfl rfl ?_
      refine z_if_lt rfl ?_ ?_
      · exact z_return rfl rfl
      · refine z_iload_n rfl rfl ?_
        refine z_bipush rfl rfl ?_
        refine z_icmp_lt rfl ?_ ?_
        · refine z_iload_n rfl rfl ?_
          refine z_bipush rfl rfl ?_
          refine z_imul rfl ?_
          refine z_iload_n rfl rfl ?_
          refine z_iadd rfl ?_
          refine z_istoreL rfl rfl (fun y1 => ?_)
          refine z_iload rfl rfl ?_
          refine z_if_lt rfl ?_ ?_
          · exact z_return rfl rfl
          · refine z_iload rfl rfl ?_
            refine z_aload_n rfl rfl ?_
            refine z_getR rfl fl_X2_9 rfl k0 ?_
            refine z_alen (c := 0) rfl (kR_1 k0) (by omega) ?_
            refine z_icmp_ge rfl ?_ ?_
            · exact z_return rfl rfl
            · refine z_aload_n rfl rfl ?_
              refine z_getR rfl fl_X2_9 rfl k0 ?_
              refine z_iload rfl rfl ?_
              refine z_iload_n rfl rfl ?_
              refine z_iastoreL (kR_1 k0) rfl (fun h2 => ?_)
              exact z_return rfl rfl
        · exact z_return rfl rfl
set_option maxRecDepth 20000 in
set_option maxHeartbeats 1000000 in
theorem t_X1_growOlder_L2 (x0 : Nat) (k0 : kd x0 = (1, 0)) (x1 : Nat) (k1 : kd x1 = (2, 0)) : ∀ (n : Nat) (x2 : Int) (h : Hp), Z M_X1_growOlder 2 [none, some (vr x1), some (vi x2)] [] h (f_X1_growOlder_L2 x0 x1 n x2 h) := by
  intro n
  induction n with
  | zero => intro x2 h; exact Z.nix
  | succ n ih =>
    intro x2 h
    rw [f_X1_growOlder_L2_s]
    refine z_iload_n rfl rfl ?_
    refine z_aload_n rfl rfl ?_
    refine z_getI rfl fl_X1_44 rfl k1 ?_
    refine z_icmp_ge rfl ?_ ?_
    · exact z_return rfl rfl
    · refine z_aload_n rfl rfl ?_
      refine z_iload_n rfl rfl ?_
      refine z_iconst rfl rfl ?_
      refine z_aload_n rfl rfl ?_
      refine z_iload_n rfl rfl ?_
      refine z_iconst rfl rfl ?_
      refine z_V2i ko2 mv_X1_48 k1 (t_X2_cell x1 k1 _ _ _) rfl rfl rfl rfl rfl (fun r1 h1 => ?_)
      refine z_iconst rfl rfl ?_
      refine z_iadd rfl ?_
      refine z_V3v ko2 mv_X1_79 k1 (t_X2_put x1 k1 _ _ _ _) rfl rfl rfl rfl rfl (fun _ h2 => ?_)
      refine z_iinc rfl rfl rfl ?_
      refine z_goto rfl ?_
      refine Z.weak ?_ (ih _ _)
      exact wkL_n (wkL_c (wkL_c (wkL_nil _)))
set_option maxRecDepth 20000 in
set_option maxHeartbeats 1000000 in
theorem t_X1_growOlder (x0 : Nat) (k0 : kd x0 = (1, 0)) (x1 : Nat) (k1 : kd x1 = (2, 0)) (h : Hp) : Ct M_X1_growOlder [vr x0, vr x1] h (f_X1_growOlder x0 x1 h) := by
  refine Ct.mk ok_X1_growOlder pl_X1_growOlder rfl rfl ?_
  show Z M_X1_growOlder 0 [some (vr x0), some (vr x1), none] [] h (f_X1_growOlder x0 x1 h)
  unfold f_X1_growOlder
  refine z_iconst rfl rfl ?_
  refine z_istore_n rfl rfl ?_
  refine Z.weak ?_ (t_X1_growOlder_L2 x0 k0 x1 k1     fu _ _)
  · exact wkL_n (wkL_c (wkL_c (wkL_nil _)))
set_option maxRecDepth 20000 in
set_option maxHeartbeats 1000000 in
theorem t_X1_handOut_L2 (x0 : Nat) (k0 : kd x0 = (1, 0)) (c33 : Hp → Option (Int × Hp)) (hc33 : ∀ (h : Hp), Z M_X1_handOut 33 [some (vr x0), some (vr 19), none, none] [] h (c33  h)) : ∀ (n : Nat) (x2 : Int) (h : Hp), Z M_X1_handOut 2 [some (vr x0), some (vr 19), some (vi x2), none] [] h (f_X1_handOut_L2 x0 c33 n x2 h) := by
  intro n
  induction n with
  | zero => intro x2 h; exact Z.nix
  | succ n ih =>
    intro x2 h
    rw [f_X1_handOut_L2_s]
    refine z_iload_n rfl rfl ?_
    refine z_aload_n rfl rfl ?_
    refine z_getR rfl fl_X1_12 rfl k0 ?_
    refine z_getI rfl fl_X1_44 rfl (kO_1 k0) ?_
    refine z_icmp_ge rfl ?_ ?_
    · refine Z.weak ?_ (hc33 _)
      exact wkL_c (wkL_c (wkL_n (wkL_n (wkL_nil _))))
    · refine z_aload_n rfl rfl ?_
      refine z_iload_n rfl rfl ?_
      refine z_V1i ko0 mv_X1_117 kd_19 (t_X0_claimMatched _ _) rfl rfl rfl rfl rfl (fun r1 h1 => ?_)
      refine z_iconst rfl rfl ?_
      refine z_icmp_eq rfl ?_ ?_
      · refine z_iinc rfl rfl rfl ?_
        refine z_goto rfl ?_
        refine Z.weak ?_ (ih _ _)
        exact wkL_c (wkL_c (wkL_c (wkL_n (wkL_nil _))))
      · refine z_aload_n rfl rfl ?_
        refine z_getR rfl fl_X1_12 rfl k0 ?_
        refine z_iload_n rfl rfl ?_
        refine z_iconst rfl rfl ?_
        refine z_V2i ko2 mv_X1_48 (kO_1 k0) (t_X2_cell (x0 + 1) (kO_1 k0) _ _ _) rfl rfl rfl rfl rfl (fun r2 h2 => ?_)
        refine z_istore_n rfl rfl ?_
        refine z_aload_n rfl rfl ?_
        refine z_iconst rfl rfl ?_
        refine z_iload_n rfl rfl ?_
        refine z_iload_n rfl rfl ?_
        refine z_aload_n rfl rfl ?_
        refine z_iconst rfl rfl ?_
        refine z_V1i ko1 mv_X1_107 k0 (t_X1_setting x0 k0 _ _) rfl rfl rfl rfl rfl (fun r3 h3 => ?_)
        refine z_imul rfl ?_
        refine z_V3v ko1 mv_X1_114 k0 (t_X1_enter x0 k0 _ _ _ _) rfl rfl rfl rfl rfl (fun _ h4 => ?_)
        refine z_aload_n rfl rfl ?_
        refine z_bipush rfl rfl ?_
        refine z_iconst rfl rfl ?_
        refine z_V2v ko1 mv_X1_61 k0 (t_X1_addTo x0 k0 _ _ _) rfl rfl rfl rfl rfl (fun _ h5 => ?_)
        refine z_iinc rfl rfl rfl ?_
        refine z_goto rfl ?_
        refine Z.weak ?_ (ih _ _)
        exact wkL_c (wkL_c (wkL_c (wkL_n (wkL_nil _))))
set_option maxRecDepth 20000 in
set_option maxHeartbeats 1000000 in
theorem t_X1_handOut_L39 (x0 : Nat) (k0 : kd x0 = (1, 0)) (c52 : Hp → Option (Int × Hp)) (hc52 : ∀ (h : Hp), Z M_X1_handOut 52 [some (vr x0), some (vr 19), none, none] [] h (c52  h)) : ∀ (n : Nat) (x2 : Int) (h : Hp), Z M_X1_handOut 39 [some (vr x0), some (vr 19), some (vi x2), none] [] h (f_X1_handOut_L39 x0 c52 n x2 h) := by
  intro n
  induction n with
  | zero => intro x2 h; exact Z.nix
  | succ n ih =>
    intro x2 h
    rw [f_X1_handOut_L39_s]
    refine z_iload_n rfl rfl ?_
    refine z_if_lt rfl ?_ ?_
    · refine Z.weak ?_ (hc52 _)
      exact wkL_c (wkL_c (wkL_n (wkL_n (wkL_nil _))))
    · refine z_aload_n rfl rfl ?_
      refine z_iload_n rfl rfl ?_
      refine z_V1i ko0 mv_X1_117 kd_19 (t_X0_claimMatched _ _) rfl rfl rfl rfl rfl (fun r8 h8 => ?_)
      refine z_iconst rfl rfl ?_
      refine z_icmp_eq rfl ?_ ?_
      · refine z_iinc rfl rfl rfl ?_
        refine z_goto rfl ?_
        refine Z.weak ?_ (ih _ _)
        exact wkL_c (wkL_c (wkL_c (wkL_n (wkL_nil _))))
      · refine z_aload_n rfl rfl ?_
        refine z_getR rfl fl_X1_12 rfl k0 ?_
        refine z_iload_n rfl rfl ?_
        refine z_V1v ko2 mv_X1_83 (kO_1 k0) (t_X2_remove (x0 + 1) (kO_1 k0) _ _) rfl rfl rfl rfl rfl (fun _ h9 => ?_)
        refine z_iinc rfl rfl rfl ?_
        refine z_goto rfl ?_
        refine Z.weak ?_ (ih _ _)
        exact wkL_c (wkL_c (wkL_c (wkL_n (wkL_nil _))))
set_option maxRecDepth 20000 in
set_option maxHeartbeats 1000000 in
theorem t_X1_handOut_L58 (x0 : Nat) (k0 : kd x0 = (1, 0)) : ∀ (n : Nat) (x2 : Int) (h : Hp), Z M_X1_handOut 58 [some (vr x0), some (vr 19), some (vi x2), none] [] h (f_X1_handOut_L58 x0 n x2 h) := by
  intro n
  induction n with
  | zero => intro x2 h; exact Z.nix
  | succ n ih =>
    intro x2 h
    rw [f_X1_handOut_L58_s]
    refine z_iload_n rfl rfl ?_
    refine z_if_lt rfl ?_ ?_
    · refine z_aload_n rfl rfl ?_
      refine z_getI rfl fl_X1_125 rfl kd_19 ?_
      exact z_ireturn rfl rfl
    · refine z_aload_n rfl rfl ?_
      refine z_iload_n rfl rfl ?_
      refine z_V1i ko0 mv_X1_122 kd_19 (t_X0_umbrellaMatched _ _) rfl rfl rfl rfl rfl (fun r12 h12 => ?_)
      refine z_iconst rfl rfl ?_
      refine z_icmp_eq rfl ?_ ?_
      · refine z_iinc rfl rfl rfl ?_
        refine z_goto rfl ?_
        refine Z.weak ?_ (ih _ _)
        exact wkL_c (wkL_c (wkL_c (wkL_n (wkL_nil _))))
      · refine z_aload_n rfl rfl ?_
        refine z_getR rfl fl_X1_18 rfl k0 ?_
        refine z_iload_n rfl rfl ?_
        refine z_V1v ko2 mv_X1_83 (kO_3 k0) (t_X2_remove (x0 + 3) (kO_3 k0) _ _) rfl rfl rfl rfl rfl (fun _ h13 => ?_)
        refine z_iinc rfl rfl rfl ?_
        refine z_goto rfl ?_
        refine Z.weak ?_ (ih _ _)
        exact wkL_c (wkL_c (wkL_c (wkL_n (wkL_nil _))))
set_option maxRecDepth 20000 in
set_option maxHeartbeats 1000000 in
theorem t_X1_handOut (x0 : Nat) (k0 : kd x0 = (1, 0)) (h : Hp) : Ct M_X1_handOut [vr x0, vr 19] h (f_X1_handOut x0 h) := by
  refine Ct.mk ok_X1_handOut pl_X1_handOut rfl rfl ?_
  show Z M_X1_handOut 0 [some (vr x0), some (vr 19), none, none] [] h (f_X1_handOut x0 h)
  unfold f_X1_handOut
  refine z_iconst rfl rfl ?_
  refine z_istore_n rfl rfl ?_
  refine Z.weak ?_ (t_X1_handOut_L2 x0 k0  _  ?_  fu _ _)
  · exact wkL_c (wkL_c (wkL_c (wkL_n (wkL_nil _))))
  · intro h6
    refine z_aload_n rfl rfl ?_
    refine z_getR rfl fl_X1_12 rfl k0 ?_
    refine z_getI rfl fl_X1_44 rfl (kO_1 k0) ?_
    refine z_iconst rfl rfl ?_
    refine z_isub rfl ?_
    refine z_istore_nL rfl rfl (fun y7 => ?_)
    refine Z.weak ?_ (t_X1_handOut_L39 x0 k0  _  ?_  fu _ _)
    · exact wkL_c (wkL_c (wkL_c (wkL_n (wkL_nil _))))
    · intro h10
      refine z_aload_n rfl rfl ?_
      refine z_getR rfl fl_X1_18 rfl k0 ?_
      refine z_getI rfl fl_X1_44 rfl (kO_3 k0) ?_
      refine z_iconst rfl rfl ?_
      refine z_isub rfl ?_
      refine z_istore_nL rfl rfl (fun y11 => ?_)
      refine Z.weak ?_ (t_X1_handOut_L58 x0 k0     fu _ _)
      · exact wkL_c (wkL_c (wkL_c (wkL_n (wkL_nil _))))
set_option maxRecDepth 20000 in
set_option maxHeartbeats 1000000 in
theorem t_X4_isDetail (x0 : Int) (h : Hp) : Ct M_X4_isDetail [vi x0] h (f_X4_isDetail x0 h) := by
  refine Ct.mk ok_X4_isDetail pl_X4_isDetail rfl rfl ?_
  show Z M_X4_isDetail 0 [some (vi x0)] [] h (f_X4_isDetail x0 h)
  unfold f_X4_isDetail
  refine z_iload_n rfl rfl ?_
  refine z_if_lt rfl ?_ ?_
  · refine z_iconst rfl rfl ?_
    exact z_zret0 rfl rfl
  · refine z_iload_n rfl rfl ?_
    refine z_iconst rfl rfl ?_
    refine z_icmp_ge rfl ?_ ?_
    · refine z_iconst rfl rfl ?_
      exact z_zret0 rfl rfl
    · refine z_iconst rfl rfl ?_
      refine z_goto rfl ?_
      exact z_zret1 rfl rfl
set_option maxRecDepth 20000 in
set_option maxHeartbeats 1000000 in
theorem t_X4_isValue (x0 : Int) (h : Hp) : Ct M_X4_isValue [vi x0] h (f_X4_isValue x0 h) := by
  refine Ct.mk ok_X4_isValue pl_X4_isValue rfl rfl ?_
  show Z M_X4_isValue 0 [some (vi x0)] [] h (f_X4_isValue x0 h)
  unfold f_X4_isValue
  refine z_iload_n rfl rfl ?_
  refine z_if_lt rfl ?_ ?_
  · refine z_iconst rfl rfl ?_
    exact z_zret0 rfl rfl
  · refine z_iload_n rfl rfl ?_
    refine z_bipush rfl rfl ?_
    refine z_icmp_ge rfl ?_ ?_
    · refine z_iconst rfl rfl ?_
      exact z_zret0 rfl rfl
    · refine z_iconst rfl rfl ?_
      refine z_goto rfl ?_
      exact z_zret1 rfl rfl
set_option maxRecDepth 20000 in
set_option maxHeartbeats 1000000 in
theorem t_X1_noteDetail_J32 (x0 : Nat) (k0 : kd x0 = (1, 0)) (x1 : Int) (x2 : Int) (x3 : Int) (x5 : Int) (h : Hp) : Z M_X1_noteDetail 32 [some (vr x0), some (vi x1), some (vi x2), some (vi x3), none, some (vi x5)] [] h (f_X1_noteDetail_J32 x0 x1 x2 x3 x5 h) := by
  unfold f_X1_noteDetail_J32
  refine z_aload_n rfl rfl ?_
  refine z_getR rfl fl_X1_18 rfl k0 ?_
  refine z_iload_n rfl rfl ?_
  refine z_iload_n rfl rfl ?_
  refine z_iload_n rfl rfl ?_
  refine z_V3v ko2 mv_X1_79 (kO_3 k0) (t_X2_put (x0 + 3) (kO_3 k0) _ _ _ _) rfl rfl rfl rfl rfl (fun _ h6 => ?_)
  refine z_aload_n rfl rfl ?_
  refine z_getR rfl fl_X1_18 rfl k0 ?_
  refine z_iload_n rfl rfl ?_
  refine z_iconst rfl rfl ?_
  refine z_iload rfl rfl ?_
  refine z_V3v ko2 mv_X1_79 (kO_3 k0) (t_X2_put (x0 + 3) (kO_3 k0) _ _ _ _) rfl rfl rfl rfl rfl (fun _ h7 => ?_)
  refine z_iload rfl rfl ?_
  exact z_ireturn rfl rfl
set_option maxRecDepth 20000 in
set_option maxHeartbeats 1000000 in
theorem t_X1_noteDetail (x0 : Nat) (k0 : kd x0 = (1, 0)) (x1 : Int) (x2 : Int) (x3 : Int) (h : Hp) : Ct M_X1_noteDetail [vr x0, vi x1, vi x2, vi x3] h (f_X1_noteDetail x0 x1 x2 x3 h) := by
  refine Ct.mk ok_X1_noteDetail pl_X1_noteDetail rfl rfl ?_
  show Z M_X1_noteDetail 0 [some (vr x0), some (vi x1), some (vi x2), some (vi x3), none, none] [] h (f_X1_noteDetail x0 x1 x2 x3 h)
  unfold f_X1_noteDetail
  refine z_aload_n rfl rfl ?_
  refine z_getR rfl fl_X1_18 rfl k0 ?_
  refine z_iload_n rfl rfl ?_
  refine z_V1i ko2 mv_X1_73 (kO_3 k0) (t_X2_has (x0 + 3) (kO_3 k0) _ _) rfl rfl rfl rfl rfl (fun r1 h1 => ?_)
  refine z_if_eq rfl ?_ ?_
  · refine z_ldc rfl cst_X1_59 rfl ?_
    exact z_ireturn rfl rfl
  · refine z_iload_n rfl rfl ?_
    refine z_N1i mn_X1_76 (t_X4_isDetail _ _) rfl rfl rfl rfl (fun r2 h2 => ?_)
    refine z_if_eq rfl ?_ ?_
    · refine z_ldc rfl cst_X1_59 rfl ?_
      exact z_ireturn rfl rfl
    · refine z_iload_n rfl rfl ?_
      refine z_N1i mn_X1_55 (t_X4_isValue _ _) rfl rfl rfl rfl (fun r3 h3 => ?_)
      refine z_if_ne rfl ?_ ?_
      · refine z_aload_n rfl rfl ?_
        refine z_getR rfl fl_X1_18 rfl k0 ?_
        refine z_iload_n rfl rfl ?_
        refine z_iload_n rfl rfl ?_
        refine z_V2i ko2 mv_X1_48 (kO_3 k0) (t_X2_cell (x0 + 3) (kO_3 k0) _ _ _) rfl rfl rfl rfl rfl (fun r4 h4 => ?_)
        refine z_istore rfl rfl ?_
        refine z_aload_n rfl rfl ?_
        refine z_getR rfl fl_X1_18 rfl k0 ?_
        refine z_iload_n rfl rfl ?_
        refine z_iconst rfl rfl ?_
        refine z_V2i ko2 mv_X1_48 (kO_3 k0) (t_X2_cell (x0 + 3) (kO_3 k0) _ _ _) rfl rfl rfl rfl rfl (fun r5 h5 => ?_)
        refine z_istore rfl rfl ?_
        refine z_iload rfl rfl ?_
        refine z_iconst rfl rfl ?_
        refine z_icmp_eq rfl ?_ ?_
        · refine Z.weak ?_ (t_X1_noteDetail_J32 x0 k0 _ _ _ _  _)
          exact wkL_c (wkL_c (wkL_c (wkL_c (wkL_n (wkL_c (wkL_nil _))))))
        · refine z_iload rfl rfl ?_
          refine z_iload_n rfl rfl ?_
          refine z_icmp_eq rfl ?_ ?_
          · refine Z.weak ?_ (t_X1_noteDetail_J32 x0 k0 _ _ _ _  _)
            exact wkL_c (wkL_c (wkL_c (wkL_c (wkL_n (wkL_c (wkL_nil _))))))
          · refine z_iinc rfl rfl rfl ?_
            refine Z.weak ?_ (t_X1_noteDetail_J32 x0 k0 _ _ _ _  _)
            exact wkL_c (wkL_c (wkL_c (wkL_c (wkL_n (wkL_c (wkL_nil _))))))
      · refine z_ldc rfl cst_X1_59 rfl ?_
        exact z_ireturn rfl rfl
set_option maxRecDepth 20000 in
set_option maxHeartbeats 1000000 in
theorem t_X1_umbrellasWith_L4 (x0 : Nat) (k0 : kd x0 = (1, 0)) (x1 : Int) (x2 : Int) : ∀ (n : Nat) (x3 : Int) (x4 : Int) (h : Hp), Z M_X1_umbrellasWith 4 [some (vr x0), some (vi x1), some (vi x2), some (vi x3), some (vi x4)] [] h (f_X1_umbrellasWith_L4 x0 x1 x2 n x3 x4 h) := by
  intro n
  induction n with
  | zero => intro x3 x4 h; exact Z.nix
  | succ n ih =>
    intro x3 x4 h
    rw [f_X1_umbrellasWith_L4_s]
    refine z_iload rfl rfl ?_
    refine z_aload_n rfl rfl ?_
    refine z_getR rfl fl_X1_12 rfl k0 ?_
    refine z_getI rfl fl_X1_44 rfl (kO_1 k0) ?_
    refine z_icmp_ge rfl ?_ ?_
    · refine z_iload_n rfl rfl ?_
      exact z_ireturn rfl rfl
    · refine z_aload_n rfl rfl ?_
      refine z_getR rfl fl_X1_12 rfl k0 ?_
      refine z_iload rfl rfl ?_
      refine z_iload_n rfl rfl ?_
      refine z_V2i ko2 mv_X1_48 (kO_1 k0) (t_X2_cell (x0 + 1) (kO_1 k0) _ _ _) rfl rfl rfl rfl rfl (fun r1 h1 => ?_)
      refine z_iload_n rfl rfl ?_
      refine z_icmp_ne rfl ?_ ?_
      · refine z_iinc rfl rfl rfl ?_
        refine z_goto rfl ?_
        refine Z.weak ?_ (ih _ _ _)
        exact wkL_c (wkL_c (wkL_c (wkL_c (wkL_c (wkL_nil _)))))
      · refine z_iinc rfl rfl rfl ?_
        refine z_iinc rfl rfl rfl ?_
        refine z_goto rfl ?_
        refine Z.weak ?_ (ih _ _ _)
        exact wkL_c (wkL_c (wkL_c (wkL_c (wkL_c (wkL_nil _)))))
set_option maxRecDepth 20000 in
set_option maxHeartbeats 1000000 in
theorem t_X1_umbrellasWith (x0 : Nat) (k0 : kd x0 = (1, 0)) (x1 : Int) (x2 : Int) (h : Hp) : Ct M_X1_umbrellasWith [vr x0, vi x1, vi x2] h (f_X1_umbrellasWith x0 x1 x2 h) := by
  refine Ct.mk ok_X1_umbrellasWith pl_X1_umbrellasWith rfl rfl ?_
  show Z M_X1_umbrellasWith 0 [some (vr x0), some (vi x1), some (vi x2), none, none] [] h (f_X1_umbrellasWith x0 x1 x2 h)
  unfold f_X1_umbrellasWith
  refine z_iconst rfl rfl ?_
  refine z_istore_n rfl rfl ?_
  refine z_iconst rfl rfl ?_
  refine z_istore rfl rfl ?_
  refine Z.weak ?_ (t_X1_umbrellasWith_L4 x0 k0 _ _     fu _ _ _)
  · exact wkL_c (wkL_c (wkL_c (wkL_c (wkL_c (wkL_nil _)))))
set_option maxRecDepth 20000 in
set_option maxHeartbeats 1000000 in
theorem t_X1_oddnessTogether_L4 (x0 : Nat) (k0 : kd x0 = (1, 0)) (x1 : Int) : ∀ (n : Nat) (x2 : Int) (x3 : Int) (h : Hp), Z M_X1_oddnessTogether 4 [some (vr x0), some (vi x1), some (vi x2), some (vi x3)] [] h (f_X1_oddnessTogether_L4 x0 x1 n x2 x3 h) := by
  intro n
  induction n with
  | zero => intro x2 x3 h; exact Z.nix
  | succ n ih =>
    intro x2 x3 h
    rw [f_X1_oddnessTogether_L4_s]
    refine z_iload_n rfl rfl ?_
    refine z_iconst rfl rfl ?_
    refine z_icmp_ge rfl ?_ ?_
    · refine z_iload_n rfl rfl ?_
      exact z_ireturn rfl rfl
    · refine z_iload_n rfl rfl ?_
      refine z_bipush rfl rfl ?_
      refine z_aload_n rfl rfl ?_
      refine z_iload_n rfl rfl ?_
      refine z_aload_n rfl rfl ?_
      refine z_getR rfl fl_X1_12 rfl k0 ?_
      refine z_iload_n rfl rfl ?_
      refine z_iload_n rfl rfl ?_
      refine z_V2i ko2 mv_X1_48 (kO_1 k0) (t_X2_cell (x0 + 1) (kO_1 k0) _ _ _) rfl rfl rfl rfl rfl (fun r1 h1 => ?_)
      refine z_V2i ko1 mv_X1_52 k0 (t_X1_umbrellasWith x0 k0 _ _ _) rfl rfl rfl rfl rfl (fun r2 h2 => ?_)
      refine z_isub rfl ?_
      refine z_iadd rfl ?_
      refine z_istore_nL rfl rfl (fun y3 => ?_)
      refine z_iinc rfl rfl rfl ?_
      refine z_goto rfl ?_
      refine Z.weak ?_ (ih _ _ _)
      exact wkL_c (wkL_c (wkL_c (wkL_c (wkL_nil _))))
set_option maxRecDepth 20000 in
set_option maxHeartbeats 1000000 in
theorem t_X1_oddnessTogether (x0 : Nat) (k0 : kd x0 = (1, 0)) (x1 : Int) (h : Hp) : Ct M_X1_oddnessTogether [vr x0, vi x1] h (f_X1_oddnessTogether x0 x1 h) := by
  refine Ct.mk ok_X1_oddnessTogether pl_X1_oddnessTogether rfl rfl ?_
  show Z M_X1_oddnessTogether 0 [some (vr x0), some (vi x1), none, none] [] h (f_X1_oddnessTogether x0 x1 h)
  unfold f_X1_oddnessTogether
  refine z_iconst rfl rfl ?_
  refine z_istore_n rfl rfl ?_
  refine z_iconst rfl rfl ?_
  refine z_istore_n rfl rfl ?_
  refine Z.weak ?_ (t_X1_oddnessTogether_L4 x0 k0 _     fu _ _ _)
  · exact wkL_c (wkL_c (wkL_c (wkL_c (wkL_nil _))))
set_option maxRecDepth 20000 in
set_option maxHeartbeats 1000000 in
theorem t_X4_isWeeksAtOnce (x0 : Int) (h : Hp) : Ct M_X4_isWeeksAtOnce [vi x0] h (f_X4_isWeeksAtOnce x0 h) := by
  refine Ct.mk ok_X4_isWeeksAtOnce pl_X4_isWeeksAtOnce rfl rfl ?_
  show Z M_X4_isWeeksAtOnce 0 [some (vi x0)] [] h (f_X4_isWeeksAtOnce x0 h)
  unfold f_X4_isWeeksAtOnce
  refine z_iload_n rfl rfl ?_
  refine z_iconst rfl rfl ?_
  refine z_icmp_lt rfl ?_ ?_
  · refine z_iconst rfl rfl ?_
    exact z_zret0 rfl rfl
  · refine z_iload_n rfl rfl ?_
    refine z_bipush rfl rfl ?_
    refine z_icmp_gt rfl ?_ ?_
    · refine z_iconst rfl rfl ?_
      exact z_zret0 rfl rfl
    · refine z_iconst rfl rfl ?_
      refine z_goto rfl ?_
      exact z_zret1 rfl rfl
set_option maxRecDepth 20000 in
set_option maxHeartbeats 1000000 in
theorem t_X1_passWeeks_L20 (x0 : Nat) (k0 : kd x0 = (1, 0)) (x1 : Int) (x3 : Int) : ∀ (n : Nat) (x4 : Int) (h : Hp), Z M_X1_passWeeks 20 [some (vr x0), some (vi x1), none, some (vi x3), some (vi x4)] [] h (f_X1_passWeeks_L20 x0 x1 x3 n x4 h) := by
  intro n
  induction n with
  | zero => intro x4 h; exact Z.nix
  | succ n ih =>
    intro x4 h
    rw [f_X1_passWeeks_L20_s]
    refine z_iload rfl rfl ?_
    refine z_iload_n rfl rfl ?_
    refine z_icmp_ge rfl ?_ ?_
    · refine z_aload_n rfl rfl ?_
      refine z_bipush rfl rfl ?_
      refine z_V1i ko1 mv_X1_100 k0 (t_X1_sum x0 k0 _ _) rfl rfl rfl rfl rfl (fun r4 h4 => ?_)
      refine z_iload_n rfl rfl ?_
      refine z_isub rfl ?_
      exact z_ireturn rfl rfl
    · refine z_aload_n rfl rfl ?_
      refine z_iconst rfl rfl ?_
      refine z_iconst rfl rfl ?_
      refine z_V2v ko1 mv_X1_61 k0 (t_X1_addTo x0 k0 _ _ _) rfl rfl rfl rfl rfl (fun _ h5 => ?_)
      refine z_aload_n rfl rfl ?_
      refine z_aload_n rfl rfl ?_
      refine z_getR rfl fl_X1_12 rfl k0 ?_
      refine z_V1v ko1 mv_X1_104 k0 (t_X1_growOlder x0 k0 (x0 + 1) (kO_1 k0) _) rfl rfl rfl rfl rfl (fun _ h6 => ?_)
      refine z_aload_n rfl rfl ?_
      refine z_aload_n rfl rfl ?_
      refine z_getR rfl fl_X1_18 rfl k0 ?_
      refine z_V1v ko1 mv_X1_104 k0 (t_X1_growOlder x0 k0 (x0 + 3) (kO_3 k0) _) rfl rfl rfl rfl rfl (fun _ h7 => ?_)
      refine z_aload_n rfl rfl ?_
      refine z_aload_n rfl rfl ?_
      refine z_getR rfl fl_X1_12 rfl k0 ?_
      refine z_iconst rfl rfl ?_
      refine z_bipush rfl rfl ?_
      refine z_aload_n rfl rfl ?_
      refine z_bipush rfl rfl ?_
      refine z_V1i ko1 mv_X1_107 k0 (t_X1_setting x0 k0 _ _) rfl rfl rfl rfl rfl (fun r8 h8 => ?_)
      refine z_V4v ko1 mv_X1_110 k0 (t_X1_endOld x0 k0 (x0 + 1) (kO_1 k0) _ _ _ _) rfl rfl rfl rfl rfl (fun _ h9 => ?_)
      refine z_aload_n rfl rfl ?_
      refine z_aload_n rfl rfl ?_
      refine z_getR rfl fl_X1_18 rfl k0 ?_
      refine z_iconst rfl rfl ?_
      refine z_bipush rfl rfl ?_
      refine z_iconst rfl rfl ?_
      refine z_V4v ko1 mv_X1_110 k0 (t_X1_endOld x0 k0 (x0 + 3) (kO_3 k0) _ _ _ _) rfl rfl rfl rfl rfl (fun _ h10 => ?_)
      refine z_iinc rfl rfl rfl ?_
      refine z_goto rfl ?_
      refine Z.weak ?_ (ih _ _)
      exact wkL_c (wkL_c (wkL_n (wkL_c (wkL_c (wkL_nil _)))))
set_option maxRecDepth 20000 in
set_option maxHeartbeats 1000000 in
theorem t_X1_passWeeks (x0 : Nat) (k0 : kd x0 = (1, 0)) (x1 : Int) (x2 : Int) (h : Hp) : Ct M_X1_passWeeks [vr x0, vi x1, vi x2] h (f_X1_passWeeks x0 x1 x2 h) := by
  refine Ct.mk ok_X1_passWeeks pl_X1_passWeeks rfl rfl ?_
  show Z M_X1_passWeeks 0 [some (vr x0), some (vi x1), some (vi x2), none, none] [] h (f_X1_passWeeks x0 x1 x2 h)
  unfold f_X1_passWeeks
  refine z_iload_n rfl rfl ?_
  refine z_N1i mn_X1_97 (t_X4_isWeeksAtOnce _ _) rfl rfl rfl rfl (fun r1 h1 => ?_)
  refine z_if_ne rfl ?_ ?_
  · refine z_aload_n rfl rfl ?_
    refine z_iconst rfl rfl ?_
    refine z_V1i ko1 mv_X1_100 k0 (t_X1_sum x0 k0 _ _) rfl rfl rfl rfl rfl (fun r2 h2 => ?_)
    refine z_iload_n rfl rfl ?_
    refine z_iadd rfl ?_
    refine z_iload_n rfl rfl ?_
    refine z_icmp_le rfl ?_ ?_
    · refine z_aload_n rfl rfl ?_
      refine z_bipush rfl rfl ?_
      refine z_V1i ko1 mv_X1_100 k0 (t_X1_sum x0 k0 _ _) rfl rfl rfl rfl rfl (fun r3 h3 => ?_)
      refine z_istore_n rfl rfl ?_
      refine z_iconst rfl rfl ?_
      refine z_istore rfl rfl ?_
      refine Z.weak ?_ (t_X1_passWeeks_L20 x0 k0 _ _     fu _ _)
      · exact wkL_c (wkL_c (wkL_n (wkL_c (wkL_c (wkL_nil _)))))
    · refine z_ldc rfl cst_X1_60 rfl ?_
      exact z_ireturn rfl rfl
  · refine z_ldc rfl cst_X1_59 rfl ?_
    exact z_ireturn rfl rfl
set_option maxRecDepth 20000 in
set_option maxHeartbeats 1000000 in
theorem t_X4_isValueOrNotTold (x0 : Int) (h : Hp) : Ct M_X4_isValueOrNotTold [vi x0] h (f_X4_isValueOrNotTold x0 h) := by
  refine Ct.mk ok_X4_isValueOrNotTold pl_X4_isValueOrNotTold rfl rfl ?_
  show Z M_X4_isValueOrNotTold 0 [some (vi x0)] [] h (f_X4_isValueOrNotTold x0 h)
  unfold f_X4_isValueOrNotTold
  refine z_iload_n rfl rfl ?_
  refine z_iconst rfl rfl ?_
  refine z_icmp_eq rfl ?_ ?_
  · refine z_iconst rfl rfl ?_
    refine z_goto rfl ?_
    exact z_zret1 rfl rfl
  · refine z_iload_n rfl rfl ?_
    refine z_S1i ms_X4_138 (t_X4_isValue _ _) rfl rfl rfl rfl (fun r1 h1 => ?_)
    refine z_if_eq rfl ?_ ?_
    · refine z_iconst rfl rfl ?_
      exact z_zret0 rfl rfl
    · refine z_iconst rfl rfl ?_
      refine z_goto rfl ?_
      exact z_zret1 rfl rfl
set_option maxRecDepth 20000 in
set_option maxHeartbeats 1000000 in
theorem t_X1_takeClaim_J28 (x0 : Nat) (k0 : kd x0 = (1, 0)) (x1 : Int) (x2 : Int) (x3 : Int) (x4 : Int) (h : Hp) : Z M_X1_takeClaim 28 [some (vr x0), some (vi x1), some (vi x2), some (vi x3), some (vi x4)] [] h (f_X1_takeClaim_J28 x0 x1 x2 x3 x4 h) := by
  unfold f_X1_takeClaim_J28
  refine z_aload_n rfl rfl ?_
  refine z_getR rfl fl_X1_18 rfl k0 ?_
  refine z_getI rfl fl_X1_44 rfl (kO_3 k0) ?_
  refine z_bipush rfl rfl ?_
  refine z_icmp_lt rfl ?_ ?_
  · refine z_aload_n rfl rfl ?_
    refine z_bipush rfl rfl ?_
    refine z_iconst rfl rfl ?_
    refine z_V2v ko1 mv_X1_61 k0 (t_X1_addTo x0 k0 _ _ _) rfl rfl rfl rfl rfl (fun _ h5 => ?_)
    refine z_aload_n rfl rfl ?_
    refine z_getR rfl fl_X1_18 rfl k0 ?_
    refine z_iload_n rfl rfl ?_
    refine z_iload_n rfl rfl ?_
    refine z_iload_n rfl rfl ?_
    refine z_iload rfl rfl ?_
    refine z_V4i ko2 mv_X1_65 (kO_3 k0) (t_X2_append (x0 + 3) (kO_3 k0) _ _ _ _ _) rfl rfl rfl rfl rfl (fun r6 h6 => ?_)
    exact z_ireturn rfl rfl
  · refine z_ldc rfl cst_X1_60 rfl ?_
    exact z_ireturn rfl rfl
set_option maxRecDepth 20000 in
set_option maxHeartbeats 1000000 in
theorem t_X1_takeClaim (x0 : Nat) (k0 : kd x0 = (1, 0)) (x1 : Int) (x2 : Int) (x3 : Int) (x4 : Int) (h : Hp) : Ct M_X1_takeClaim [vr x0, vi x1, vi x2, vi x3, vi x4] h (f_X1_takeClaim x0 x1 x2 x3 x4 h) := by
  refine Ct.mk ok_X1_takeClaim pl_X1_takeClaim rfl rfl ?_
  show Z M_X1_takeClaim 0 [some (vr x0), some (vi x1), some (vi x2), some (vi x3), some (vi x4)] [] h (f_X1_takeClaim x0 x1 x2 x3 x4 h)
  unfold f_X1_takeClaim
  refine z_iload_n rfl rfl ?_
  refine z_N1i mn_X1_69 (t_X4_isValueOrNotTold _ _) rfl rfl rfl rfl (fun r1 h1 => ?_)
  refine z_if_eq rfl ?_ ?_
  · refine z_ldc rfl cst_X1_59 rfl ?_
    exact z_ireturn rfl rfl
  · refine z_iload_n rfl rfl ?_
    refine z_N1i mn_X1_69 (t_X4_isValueOrNotTold _ _) rfl rfl rfl rfl (fun r2 h2 => ?_)
    refine z_if_eq rfl ?_ ?_
    · refine z_ldc rfl cst_X1_59 rfl ?_
      exact z_ireturn rfl rfl
    · refine z_iload_n rfl rfl ?_
      refine z_N1i mn_X1_69 (t_X4_isValueOrNotTold _ _) rfl rfl rfl rfl (fun r3 h3 => ?_)
      refine z_if_eq rfl ?_ ?_
      · refine z_ldc rfl cst_X1_59 rfl ?_
        exact z_ireturn rfl rfl
      · refine z_iload rfl rfl ?_
        refine z_N1i mn_X1_69 (t_X4_isValueOrNotTold _ _) rfl rfl rfl rfl (fun r4 h4 => ?_)
        refine z_if_ne rfl ?_ ?_
        · refine z_iload_n rfl rfl ?_
          refine z_iconst rfl rfl ?_
          refine z_icmp_ne rfl ?_ ?_
          · refine Z.weak ?_ (t_X1_takeClaim_J28 x0 k0 _ _ _ _  _)
            exact wkL_c (wkL_c (wkL_c (wkL_c (wkL_c (wkL_nil _)))))
          · refine z_iload_n rfl rfl ?_
            refine z_iconst rfl rfl ?_
            refine z_icmp_ne rfl ?_ ?_
            · refine Z.weak ?_ (t_X1_takeClaim_J28 x0 k0 _ _ _ _  _)
              exact wkL_c (wkL_c (wkL_c (wkL_c (wkL_c (wkL_nil _)))))
            · refine z_iload_n rfl rfl ?_
              refine z_iconst rfl rfl ?_
              refine z_icmp_ne rfl ?_ ?_
              · refine Z.weak ?_ (t_X1_takeClaim_J28 x0 k0 _ _ _ _  _)
                exact wkL_c (wkL_c (wkL_c (wkL_c (wkL_c (wkL_nil _)))))
              · refine z_iload rfl rfl ?_
                refine z_iconst rfl rfl ?_
                refine z_icmp_ne rfl ?_ ?_
                · refine Z.weak ?_ (t_X1_takeClaim_J28 x0 k0 _ _ _ _  _)
                  exact wkL_c (wkL_c (wkL_c (wkL_c (wkL_c (wkL_nil _)))))
                · refine z_ldc rfl cst_X1_72 rfl ?_
                  exact z_ireturn rfl rfl
        · refine z_ldc rfl cst_X1_59 rfl ?_
          exact z_ireturn rfl rfl
set_option maxRecDepth 20000 in
set_option maxHeartbeats 1000000 in
theorem t_X1_takeUmbrella (x0 : Nat) (k0 : kd x0 = (1, 0)) (x1 : Int) (x2 : Int) (x3 : Int) (x4 : Int) (h : Hp) : Ct M_X1_takeUmbrella [vr x0, vi x1, vi x2, vi x3, vi x4] h (f_X1_takeUmbrella x0 x1 x2 x3 x4 h) := by
  refine Ct.mk ok_X1_takeUmbrella pl_X1_takeUmbrella rfl rfl ?_
  show Z M_X1_takeUmbrella 0 [some (vr x0), some (vi x1), some (vi x2), some (vi x3), some (vi x4)] [] h (f_X1_takeUmbrella x0 x1 x2 x3 x4 h)
  unfold f_X1_takeUmbrella
  refine z_iload_n rfl rfl ?_
  refine z_N1i mn_X1_55 (t_X4_isValue _ _) rfl rfl rfl rfl (fun r1 h1 => ?_)
  refine z_if_eq rfl ?_ ?_
  · refine z_ldc rfl cst_X1_59 rfl ?_
    exact z_ireturn rfl rfl
  · refine z_iload_n rfl rfl ?_
    refine z_N1i mn_X1_55 (t_X4_isValue _ _) rfl rfl rfl rfl (fun r2 h2 => ?_)
    refine z_if_eq rfl ?_ ?_
    · refine z_ldc rfl cst_X1_59 rfl ?_
      exact z_ireturn rfl rfl
    · refine z_iload_n rfl rfl ?_
      refine z_N1i mn_X1_55 (t_X4_isValue _ _) rfl rfl rfl rfl (fun r3 h3 => ?_)
      refine z_if_eq rfl ?_ ?_
      · refine z_ldc rfl cst_X1_59 rfl ?_
        exact z_ireturn rfl rfl
      · refine z_iload rfl rfl ?_
        refine z_N1i mn_X1_55 (t_X4_isValue _ _) rfl rfl rfl rfl (fun r4 h4 => ?_)
        refine z_if_ne rfl ?_ ?_
        · refine z_aload_n rfl rfl ?_
          refine z_getR rfl fl_X1_12 rfl k0 ?_
          refine z_getI rfl fl_X1_44 rfl (kO_1 k0) ?_
          refine z_bipush rfl rfl ?_
          refine z_icmp_lt rfl ?_ ?_
          · refine z_aload_n rfl rfl ?_
            refine z_iconst rfl rfl ?_
            refine z_iconst rfl rfl ?_
            refine z_V2v ko1 mv_X1_61 k0 (t_X1_addTo x0 k0 _ _ _) rfl rfl rfl rfl rfl (fun _ h5 => ?_)
            refine z_aload_n rfl rfl ?_
            refine z_getR rfl fl_X1_12 rfl k0 ?_
            refine z_iload_n rfl rfl ?_
            refine z_iload_n rfl rfl ?_
            refine z_iload_n rfl rfl ?_
            refine z_iload rfl rfl ?_
            refine z_V4i ko2 mv_X1_65 (kO_1 k0) (t_X2_append (x0 + 1) (kO_1 k0) _ _ _ _ _) rfl rfl rfl rfl rfl (fun r6 h6 => ?_)
            exact z_ireturn rfl rfl
          · refine z_ldc rfl cst_X1_60 rfl ?_
            exact z_ireturn rfl rfl
        · refine z_ldc rfl cst_X1_59 rfl ?_
          exact z_ireturn rfl rfl
set_option maxRecDepth 20000 in
set_option maxHeartbeats 1000000 in
theorem t_X3_append (x1 : Int) (h : Hp) : Ct M_X3_append [vr 28, vi x1] h (f_X3_append x1 h) := by
  refine Ct.mk ok_X3_append pl_X3_append rfl rfl ?_
  show Z M_X3_append 0 [some (vr 28), some (vi x1)] [] h (f_X3_append x1 h)
  unfold f_X3_append
  refine z_aload_n rfl rfl ?_
  refine z_getI rfl fl_X3_15 rfl kd_28 ?_
  refine z_if_lt rfl ?_ ?_
  · refine z_iconst rfl rfl ?_
    exact z_zret0 rfl rfl
  · refine z_aload_n rfl rfl ?_
    refine z_getI rfl fl_X3_15 rfl kd_28 ?_
    refine z_aload_n rfl rfl ?_
    refine z_getRn (m := 29) rfl fl_X3_9 rfl kd_28 rfl ?_
    refine z_alen (c := 2) rfl kd_29 (by omega) ?_
    refine z_icmp_lt rfl ?_ ?_
    · refine z_aload_n rfl rfl ?_
      refine z_getRn (m := 29) rfl fl_X3_9 rfl kd_28 rfl ?_
      refine z_aload_n rfl rfl ?_
      refine z_getI rfl fl_X3_15 rfl kd_28 ?_
      refine z_iload_n rfl rfl ?_
      refine z_castoreL kd_29 rfl (fun h1 => ?_)
      refine z_aload_n rfl rfl ?_
      refine z_dup rfl rfl ?_
      refine z_getI rfl fl_X3_15 rfl kd_28 ?_
      refine z_iconst rfl rfl ?_
      refine z_iadd rfl ?_
      refine z_putL fi_X3_15 rfl kd_28 rfl (fun h2 => ?_)
      refine z_iconst rfl rfl ?_
      exact z_zret1 rfl rfl
    · refine z_iconst rfl rfl ?_
      exact z_zret0 rfl rfl
set_option maxRecDepth 20000 in
set_option maxHeartbeats 1000000 in
theorem t_X3_signHere  (h : Hp) : Ct M_X3_signHere [vr 28] h (f_X3_signHere  h) := by
  refine Ct.mk ok_X3_signHere pl_X3_signHere rfl rfl ?_
  show Z M_X3_signHere 0 [some (vr 28)] [] h (f_X3_signHere  h)
  unfold f_X3_signHere
  refine z_aload_n rfl rfl ?_
  refine z_getI rfl fl_X3_19 rfl kd_28 ?_
  refine z_if_lt rfl ?_ ?_
  · refine z_iconst rfl rfl ?_
    exact z_cret rfl rfl
  · refine z_aload_n rfl rfl ?_
    refine z_getI rfl fl_X3_19 rfl kd_28 ?_
    refine z_aload_n rfl rfl ?_
    refine z_getI rfl fl_X3_15 rfl kd_28 ?_
    refine z_icmp_ge rfl ?_ ?_
    · refine z_iconst rfl rfl ?_
      exact z_cret rfl rfl
    · refine z_aload_n rfl rfl ?_
      refine z_getI rfl fl_X3_19 rfl kd_28 ?_
      refine z_aload_n rfl rfl ?_
      refine z_getRn (m := 29) rfl fl_X3_9 rfl kd_28 rfl ?_
      refine z_alen (c := 2) rfl kd_29 (by omega) ?_
      refine z_icmp_ge rfl ?_ ?_
      · refine z_iconst rfl rfl ?_
        exact z_cret rfl rfl
      · refine z_aload_n rfl rfl ?_
        refine z_getRn (m := 29) rfl fl_X3_9 rfl kd_28 rfl ?_
        refine z_aload_n rfl rfl ?_
        refine z_getI rfl fl_X3_19 rfl kd_28 ?_
        refine z_caload rfl kd_29 ?_
        refine z_goto rfl ?_
        exact z_cret rfl rfl
set_option maxRecDepth 20000 in
set_option maxHeartbeats 1000000 in
theorem t_X3_digitHere  (h : Hp) : Ct M_X3_digitHere [vr 28] h (f_X3_digitHere  h) := by
  refine Ct.mk ok_X3_digitHere pl_X3_digitHere rfl rfl ?_
  show Z M_X3_digitHere 0 [some (vr 28), none] [] h (f_X3_digitHere  h)
  unfold f_X3_digitHere
  refine z_aload_n rfl rfl ?_
  refine z_V0i ko3 mv_X3_33 kd_28 (t_X3_signHere  _) rfl rfl rfl rfl rfl (fun r1 h1 => ?_)
  refine z_istore_n rfl rfl ?_
  refine z_iload_n rfl rfl ?_
  refine z_bipush rfl rfl ?_
  refine z_icmp_lt rfl ?_ ?_
  · refine z_iconst rfl rfl ?_
    exact z_ireturn rfl rfl
  · refine z_iload_n rfl rfl ?_
    refine z_bipush rfl rfl ?_
    refine z_icmp_gt rfl ?_ ?_
    · refine z_iconst rfl rfl ?_
      exact z_ireturn rfl rfl
    · refine z_iload_n rfl rfl ?_
      refine z_bipush rfl rfl ?_
      refine z_isub rfl ?_
      refine z_goto rfl ?_
      exact z_ireturn rfl rfl
set_option maxRecDepth 20000 in
set_option maxHeartbeats 1000000 in
theorem t_X3_number (x1 : Int) (h : Hp) : Ct M_X3_number [vr 28, vi x1] h (f_X3_number x1 h) := by
  refine Ct.mk ok_X3_number pl_X3_number rfl rfl ?_
  show Z M_X3_number 0 [some (vr 28), some (vi x1)] [] h (f_X3_number x1 h)
  unfold f_X3_number
  refine z_aload_n rfl rfl ?_
  refine z_getRn (m := 30) rfl fl_X3_25 rfl kd_28 rfl ?_
  refine z_iload_n rfl rfl ?_
  refine z_N2i mn_X3_29 (t_X4_numberAt 30 4 (Or.inl kd_30) _ _) rfl rfl rfl rfl (fun r1 h1 => ?_)
  exact z_ireturn rfl rfl
set_option maxRecDepth 20000 in
set_option maxHeartbeats 1000000 in
theorem t_X3_readNumber  (h : Hp) : Ct M_X3_readNumber [vr 28] h (f_X3_readNumber  h) := by
  refine Ct.mk ok_X3_readNumber pl_X3_readNumber rfl rfl ?_
  show Z M_X3_readNumber 0 [some (vr 28), none, none] [] h (f_X3_readNumber  h)
  unfold f_X3_readNumber
  refine z_aload_n rfl rfl ?_
  refine z_V0i ko3 mv_X3_68 kd_28 (t_X3_digitHere  _) rfl rfl rfl rfl rfl (fun r1 h1 => ?_)
  refine z_istore_n rfl rfl ?_
  refine z_aload_n rfl rfl ?_
  refine z_dup rfl rfl ?_
  refine z_getI rfl fl_X3_19 rfl kd_28 ?_
  refine z_iconst rfl rfl ?_
  refine z_iadd rfl ?_
  refine z_putL fi_X3_19 rfl kd_28 rfl (fun h2 => ?_)
  refine z_aload_n rfl rfl ?_
  refine z_V0i ko3 mv_X3_68 kd_28 (t_X3_digitHere  _) rfl rfl rfl rfl rfl (fun r3 h3 => ?_)
  refine z_istore_n rfl rfl ?_
  refine z_iload_n rfl rfl ?_
  refine z_iconst rfl rfl ?_
  refine z_icmp_eq rfl ?_ ?_
  · refine z_iload_n rfl rfl ?_
    exact z_ireturn rfl rfl
  · refine z_iload_n rfl rfl ?_
    refine z_bipush rfl rfl ?_
    refine z_imul rfl ?_
    refine z_iload_n rfl rfl ?_
    refine z_iadd rfl ?_
    refine z_istore_nL rfl rfl (fun y4 => ?_)
    refine z_aload_n rfl rfl ?_
    refine z_dup rfl rfl ?_
    refine z_getI rfl fl_X3_19 rfl kd_28 ?_
    refine z_iconst rfl rfl ?_
    refine z_iadd rfl ?_
    refine z_putL fi_X3_19 rfl kd_28 rfl (fun h5 => ?_)
    refine z_iload_n rfl rfl ?_
    exact z_ireturn rfl rfl
set_option maxRecDepth 20000 in
set_option maxHeartbeats 1000000 in
theorem t_X3_readSign (x1 : Int) (h : Hp) : Ct M_X3_readSign [vr 28, vi x1] h (f_X3_readSign x1 h) := by
  refine Ct.mk ok_X3_readSign pl_X3_readSign rfl rfl ?_
  show Z M_X3_readSign 0 [some (vr 28), some (vi x1)] [] h (f_X3_readSign x1 h)
  unfold f_X3_readSign
  refine z_aload_n rfl rfl ?_
  refine z_V0i ko3 mv_X3_33 kd_28 (t_X3_signHere  _) rfl rfl rfl rfl rfl (fun r1 h1 => ?_)
  refine z_iload_n rfl rfl ?_
  refine z_icmp_eq rfl ?_ ?_
  · refine z_aload_n rfl rfl ?_
    refine z_dup rfl rfl ?_
    refine z_getI rfl fl_X3_19 rfl kd_28 ?_
    refine z_iconst rfl rfl ?_
    refine z_iadd rfl ?_
    refine z_putL fi_X3_19 rfl kd_28 rfl (fun h2 => ?_)
    refine z_iconst rfl rfl ?_
    exact z_zret1 rfl rfl
  · refine z_iconst rfl rfl ?_
    exact z_zret0 rfl rfl
set_option maxRecDepth 20000 in
set_option maxHeartbeats 1000000 in
theorem t_X3_readNumbers_J30 (c2 : Int → Hp → Option (Int × Hp)) (x1 : Int) (x2 : Int) (x3 : Int) (hc2 : ∀ (y3 : Int) (h : Hp), Z M_X3_readNumbers 2 [some (vr 28), some (vi x1), some (vi x2), some (vi y3)] [] h (c2 y3 h)) (h : Hp) : Z M_X3_readNumbers 30 [some (vr 28), some (vi x1), some (vi x2), some (vi x3)] [] h (f_X3_readNumbers_J30 c2 x1 x2 x3 h) := by
  unfold f_X3_readNumbers_J30
  refine z_aload_n rfl rfl ?_
  refine z_V0i ko3 mv_X3_68 kd_28 (t_X3_digitHere  _) rfl rfl rfl rfl rfl (fun r1 h1 => ?_)
  refine z_iconst rfl rfl ?_
  refine z_icmp_eq rfl ?_ ?_
  · refine z_iconst rfl rfl ?_
    exact z_zret0 rfl rfl
  · refine z_aload_n rfl rfl ?_
    refine z_getRn (m := 30) rfl fl_X3_25 rfl kd_28 rfl ?_
    refine z_iload_n rfl rfl ?_
    refine z_aload_n rfl rfl ?_
    refine z_V0i ko3 mv_X3_71 kd_28 (t_X3_readNumber  _) rfl rfl rfl rfl rfl (fun r2 h2 => ?_)
    refine z_iastoreL kd_30 rfl (fun h3 => ?_)
    refine z_goto rfl ?_
    refine z_iinc rfl rfl rfl ?_
    refine z_goto rfl ?_
    refine Z.weak ?_ (hc2 _ _)
    exact wkL_c (wkL_c (wkL_c (wkL_c (wkL_nil _))))
set_option maxRecDepth 20000 in
set_option maxHeartbeats 1000000 in
theorem t_X3_readNumbers_J18 (c2 : Int → Hp → Option (Int × Hp)) (x1 : Int) (x2 : Int) (x3 : Int) (hc2 : ∀ (y3 : Int) (h : Hp), Z M_X3_readNumbers 2 [some (vr 28), some (vi x1), some (vi x2), some (vi y3)] [] h (c2 y3 h)) (h : Hp) : Z M_X3_readNumbers 18 [some (vr 28), some (vi x1), some (vi x2), some (vi x3)] [] h (f_X3_readNumbers_J18 c2 x1 x2 x3 h) := by
  unfold f_X3_readNumbers_J18
  refine z_iload_n rfl rfl ?_
  refine z_if_eq rfl ?_ ?_
  · refine Z.weak ?_ (t_X3_readNumbers_J30  _ _ _ _ hc2 _)
    exact wkL_c (wkL_c (wkL_c (wkL_c (wkL_nil _))))
  · refine z_aload_n rfl rfl ?_
    refine z_bipush rfl rfl ?_
    refine z_V1i ko3 mv_X3_47 kd_28 (t_X3_readSign _ _) rfl rfl rfl rfl rfl (fun r4 h4 => ?_)
    refine z_if_eq rfl ?_ ?_
    · refine Z.weak ?_ (t_X3_readNumbers_J30  _ _ _ _ hc2 _)
      exact wkL_c (wkL_c (wkL_c (wkL_c (wkL_nil _))))
    · refine z_aload_n rfl rfl ?_
      refine z_getRn (m := 30) rfl fl_X3_25 rfl kd_28 rfl ?_
      refine z_iload_n rfl rfl ?_
      refine z_iconst rfl rfl ?_
      refine z_iastoreL kd_30 rfl (fun h5 => ?_)
      refine z_goto rfl ?_
      refine z_iinc rfl rfl rfl ?_
      refine z_goto rfl ?_
      refine Z.weak ?_ (hc2 _ _)
      exact wkL_c (wkL_c (wkL_c (wkL_c (wkL_nil _))))
set_option maxRecDepth 20000 in
set_option maxHeartbeats 1000000 in
theorem t_X3_readNumbers_L2 (x1 : Int) (x2 : Int) : ∀ (n : Nat) (x3 : Int) (h : Hp), Z M_X3_readNumbers 2 [some (vr 28), some (vi x1), some (vi x2), some (vi x3)] [] h (f_X3_readNumbers_L2 x1 x2 n x3 h) := by
  intro n
  induction n with
  | zero => intro x3 h; exact Z.nix
  | succ n ih =>
    intro x3 h
    rw [f_X3_readNumbers_L2_s]
    refine z_iload_n rfl rfl ?_
    refine z_iload_n rfl rfl ?_
    refine z_icmp_ge rfl ?_ ?_
    · refine z_iconst rfl rfl ?_
      exact z_zret1 rfl rfl
    · refine z_iload_n rfl rfl ?_
      refine z_aload_n rfl rfl ?_
      refine z_getRn (m := 30) rfl fl_X3_25 rfl kd_28 rfl ?_
      refine z_alen (c := 0) rfl kd_30 (by omega) ?_
      refine z_icmp_ge rfl ?_ ?_
      · refine z_iconst rfl rfl ?_
        exact z_zret1 rfl rfl
      · refine z_iload_n rfl rfl ?_
        refine z_if_le rfl ?_ ?_
        · refine Z.weak ?_ (t_X3_readNumbers_J18  _ _ _ _ ih _)
          exact wkL_c (wkL_c (wkL_c (wkL_c (wkL_nil _))))
        · refine z_aload_n rfl rfl ?_
          refine z_bipush rfl rfl ?_
          refine z_V1i ko3 mv_X3_47 kd_28 (t_X3_readSign _ _) rfl rfl rfl rfl rfl (fun r6 h6 => ?_)
          refine z_if_ne rfl ?_ ?_
          · refine Z.weak ?_ (t_X3_readNumbers_J18  _ _ _ _ ih _)
            exact wkL_c (wkL_c (wkL_c (wkL_c (wkL_nil _))))
          · refine z_iconst rfl rfl ?_
            exact z_zret0 rfl rfl
set_option maxRecDepth 20000 in
set_option maxHeartbeats 1000000 in
theorem t_X3_readNumbers (x1 : Int) (x2 : Int) (h : Hp) : Ct M_X3_readNumbers [vr 28, vi x1, vi x2] h (f_X3_readNumbers x1 x2 h) := by
  refine Ct.mk ok_X3_readNumbers pl_X3_readNumbers rfl rfl ?_
  show Z M_X3_readNumbers 0 [some (vr 28), some (vi x1), some (vi x2), none] [] h (f_X3_readNumbers x1 x2 h)
  unfold f_X3_readNumbers
  refine z_iconst rfl rfl ?_
  refine z_istore_n rfl rfl ?_
  refine Z.weak ?_ (t_X3_readNumbers_L2  _ _     fu _ _)
  · exact wkL_c (wkL_c (wkL_c (wkL_c (wkL_nil _))))
set_option maxRecDepth 20000 in
set_option maxHeartbeats 1000000 in
theorem t_X3_readWord_L2 (x1 : Nat) (n1 : Nat) (k1 : kd x1 = (31, n1)) : ∀ (n : Nat) (x2 : Int) (h : Hp), Z M_X3_readWord 2 [some (vr 28), some (vr x1), some (vi x2)] [] h (f_X3_readWord_L2 x1 n1 n x2 h) := by
  intro n
  induction n with
  | zero => intro x2 h; exact Z.nix
  | succ n ih =>
    intro x2 h
    rw [f_X3_readWord_L2_s]
    refine z_iload_n rfl rfl ?_
    refine z_aload_n rfl rfl ?_
    refine z_T0i mv_X3_59 k1 (t_J_length x1 n1 k1 _) rfl rfl rfl rfl rfl (fun r1 h1 => ?_)
    refine z_icmp_ge rfl ?_ ?_
    · refine z_iconst rfl rfl ?_
      exact z_zret1 rfl rfl
    · refine z_aload_n rfl rfl ?_
      refine z_aload_n rfl rfl ?_
      refine z_iload_n rfl rfl ?_
      refine z_T1i mv_X3_64 k1 (t_J_charAt x1 n1 k1 _ _) rfl rfl rfl rfl rfl (fun r2 h2 => ?_)
      refine z_V1i ko3 mv_X3_47 kd_28 (t_X3_readSign _ _) rfl rfl rfl rfl rfl (fun r3 h3 => ?_)
      refine z_if_ne rfl ?_ ?_
      · refine z_iinc rfl rfl rfl ?_
        refine z_goto rfl ?_
        refine Z.weak ?_ (ih _ _)
        exact wkL_c (wkL_c (wkL_c (wkL_nil _)))
      · refine z_iconst rfl rfl ?_
        exact z_zret0 rfl rfl
set_option maxRecDepth 20000 in
set_option maxHeartbeats 1000000 in
theorem t_X3_readWord (x1 : Nat) (n1 : Nat) (k1 : kd x1 = (31, n1)) (h : Hp) : Ct M_X3_readWord [vr 28, vr x1] h (f_X3_readWord x1 n1 h) := by
  refine Ct.mk ok_X3_readWord pl_X3_readWord rfl rfl ?_
  show Z M_X3_readWord 0 [some (vr 28), some (vr x1), none] [] h (f_X3_readWord x1 n1 h)
  unfold f_X3_readWord
  refine z_iconst rfl rfl ?_
  refine z_istore_n rfl rfl ?_
  refine Z.weak ?_ (t_X3_readWord_L2 x1 n1 k1     fu _ _)
  · exact wkL_c (wkL_c (wkL_c (wkL_nil _)))
