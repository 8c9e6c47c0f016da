/-! printed by wip/gen/gen26.py: the bytecode does what the functions say -/
set_option maxRecDepth 20000 in
set_option maxHeartbeats 1000000 in
theorem t_J_min (x0 : Int) (x1 : Int) (h : Hp) : Ct M_J_min [vi x0, vi x1] h (f_J_min x0 x1 h) := by
  refine Ct.mk ok_J_min pl_J_min rfl rfl ?_
  show Z M_J_min 0 0 0 [some (vi x0), some (vi x1)] [] h (f_J_min x0 x1 h)
  unfold f_J_min
  refine z_iload_n rfl rfl ?_
  refine z_iload_n rfl rfl ?_
  refine z_icmp_gt rfl ?_ ?_
  · refine z_iload_n rfl rfl ?_
    exact z_ireturn rfl rfl
  · refine z_iload_n rfl rfl ?_
    refine z_goto rfl ?_
    exact z_ireturn rfl rfl
set_option maxRecDepth 20000 in
set_option maxHeartbeats 1000000 in
theorem t_X2_become (x0 : Nat) (k0 : kd x0 = (2, 0)) (x1 : Nat) (k1 : kd x1 = (2, 0)) (h : Hp) : Ct M_X2_become [vr x0, vr x1] h (f_X2_become x0 x1 h) := by
  refine Ct.mk ok_X2_become pl_X2_become rfl rfl ?_
  show Z M_X2_become 0 0 0 [some (vr x0), some (vr x1)] [] h (f_X2_become x0 x1 h)
  unfold f_X2_become
  refine z_aload_n rfl rfl ?_
  refine z_ifnull rfl ?_
  refine z_aload_n rfl rfl ?_
  refine z_getR rfl fl_X2_9 rfl k1 ?_
  refine z_iconst rfl rfl ?_
  refine z_aload_n rfl rfl ?_
  refine z_getR rfl fl_X2_9 rfl k0 ?_
  refine z_iconst rfl rfl ?_
  refine z_bipush rfl rfl ?_
  refine z_copy (n := 72) (kR_1 k1) (kR_1 k0) cp_X2_19 rfl rfl rfl (fun h1 => ?_)
  refine z_aload_n rfl rfl ?_
  refine z_aload_n rfl rfl ?_
  refine z_getI rfl fl_X2_15 rfl k1 ?_
  refine z_putL fi_X2_15 rfl k0 rfl (fun h2 => ?_)
  exact z_return rfl rfl
set_option maxRecDepth 20000 in
set_option maxHeartbeats 1000000 in
theorem t_X1_become (x0 : Nat) (k0 : kd x0 = (1, 0)) (x1 : Nat) (k1 : kd x1 = (1, 0)) (h : Hp) : Ct M_X1_become [vr x0, vr x1] h (f_X1_become x0 x1 h) := by
  refine Ct.mk ok_X1_become pl_X1_become rfl rfl ?_
  show Z M_X1_become 0 0 0 [some (vr x0), some (vr x1)] [] h (f_X1_become x0 x1 h)
  unfold f_X1_become
  refine z_aload_n rfl rfl ?_
  refine z_ifnull rfl ?_
  refine z_aload_n rfl rfl ?_
  refine z_getR rfl fl_X1_12 rfl k0 ?_
  refine z_aload_n rfl rfl ?_
  refine z_getR rfl fl_X1_12 rfl k1 ?_
  refine z_V1v ko2 mv_X1_40 (kO_1 k0) (t_X2_become (x0 + 1) (kO_1 k0) (x1 + 1) (kO_1 k1) _) rfl rfl rfl rfl rfl (fun _ h1 => ?_)
  refine z_aload_n rfl rfl ?_
  refine z_getR rfl fl_X1_18 rfl k0 ?_
  refine z_aload_n rfl rfl ?_
  refine z_getR rfl fl_X1_18 rfl k1 ?_
  refine z_V1v ko2 mv_X1_40 (kO_3 k0) (t_X2_become (x0 + 3) (kO_3 k0) (x1 + 3) (kO_3 k1) _) rfl rfl rfl rfl rfl (fun _ h2 => ?_)
  refine z_aload_n rfl rfl ?_
  refine z_getR rfl fl_X1_21 rfl k0 ?_
  refine z_aload_n rfl rfl ?_
  refine z_getR rfl fl_X1_21 rfl k1 ?_
  refine z_V1v ko2 mv_X1_40 (kO_5 k0) (t_X2_become (x0 + 5) (kO_5 k0) (x1 + 5) (kO_5 k1) _) rfl rfl rfl rfl rfl (fun _ h3 => ?_)
  refine z_aload_n rfl rfl ?_
  refine z_getR rfl fl_X1_24 rfl k1 ?_
  refine z_iconst rfl rfl ?_
  refine z_aload_n rfl rfl ?_
  refine z_getR rfl fl_X1_24 rfl k0 ?_
  refine z_iconst rfl rfl ?_
  refine z_bipush rfl rfl ?_
  refine z_copy (n := 7) (kO_7 k1) (kO_7 k0) cp_X1_34 rfl rfl rfl (fun h4 => ?_)
  refine z_aload_n rfl rfl ?_
  refine z_getR rfl fl_X1_28 rfl k1 ?_
  refine z_iconst rfl rfl ?_
  refine z_aload_n rfl rfl ?_
  refine z_getR rfl fl_X1_28 rfl k0 ?_
  refine z_iconst rfl rfl ?_
  refine z_bipush rfl rfl ?_
  refine z_copy (n := 12) (kO_8 k1) (kO_8 k0) cp_X1_34 rfl rfl rfl (fun h5 => ?_)
  exact z_return rfl rfl
set_option maxRecDepth 20000 in
set_option maxHeartbeats 1000000 in
theorem t_X4_keepState  (h : Hp) : Ct M_X4_keepState [vr 0] h (f_X4_keepState  h) := by
  refine Ct.mk ok_X4_keepState pl_X4_keepState rfl rfl ?_
  show Z M_X4_keepState 0 0 0 [some (vr 0)] [] h (f_X4_keepState  h)
  unfold f_X4_keepState
  refine z_aload_n rfl rfl ?_
  refine z_getI rfl fl_X4_30 rfl kd_0 ?_
  refine z_if_lt rfl ?_ ?_
  · exact z_return rfl rfl
  · refine z_aload_n rfl rfl ?_
    refine z_getI rfl fl_X4_30 rfl kd_0 ?_
    refine z_aload_n rfl rfl ?_
    refine z_getRn (m := 27) rfl fl_X4_26 rfl kd_0 rfl ?_
    refine z_alen (c := 3) rfl kd_27 (by omega) ?_
    refine z_icmp_ge rfl ?_ ?_
    · exact z_return rfl rfl
    · refine z_aload_n rfl rfl ?_
      refine z_getRn (m := 27) rfl fl_X4_26 rfl kd_0 rfl ?_
      refine z_aload_n rfl rfl ?_
      refine z_getI rfl fl_X4_30 rfl kd_0 ?_
      refine z_aaload rfl kd_27 (fun q1 => ?_)
      refine z_ifnull rfl ?_
      refine z_aload_n rfl rfl ?_
      refine z_getRn (m := 27) rfl fl_X4_26 rfl kd_0 rfl ?_
      refine z_aload_n rfl rfl ?_
      refine z_getI rfl fl_X4_30 rfl kd_0 ?_
      refine z_aaload rfl kd_27 (fun q2 => ?_)
      refine z_aload_n rfl rfl ?_
      refine z_getRn (m := 1) rfl fl_X4_10 rfl kd_0 rfl ?_
      refine z_V1v ko1 mv_X4_154 q2 (t_X1_become (Int.toNat (h 27 (Int.toNat (h 0 4)))) q2 1 kd_1 _) rfl rfl rfl rfl rfl (fun _ h3 => ?_)
      exact z_return rfl rfl
set_option maxRecDepth 20000 in
set_option maxHeartbeats 1000000 in
theorem t_X4_forgetOldestState_L7 (y2 : Nat) (ky2 : kd y2 = (1, 0)) (c24 : Hp → Option (Int × Hp)) (hc24 : ∀ (h : Hp), Z M_X4_forgetOldestState 0 0 24 [some (vr 0), some (vr y2), none] [] h (c24  h)) : ∀ (n : Nat) (x2 : Int) (h : Hp), Z M_X4_forgetOldestState 0 0 7 [some (vr 0), some (vr y2), some (vi x2)] [] h (f_X4_forgetOldestState_L7 y2 c24 n x2 h) := by
  intro n
  induction n with
  | zero => intro x2 h; exact Z.nix
  | succ n ih =>
    intro x2 h
    rw [f_X4_forgetOldestState_L7_s]
    refine z_iload_n rfl rfl ?_
    refine z_aload_n rfl rfl ?_
    refine z_getRn (m := 27) rfl fl_X4_26 rfl kd_0 rfl ?_
    refine z_alen (c := 3) rfl kd_27 (by omega) ?_
    refine z_icmp_ge rfl ?_ ?_
    · refine Z.weak ?_ (hc24 _)
      exact wkL_c (wkL_c (wkL_n (wkL_nil _)))
    · refine z_aload_n rfl rfl ?_
      refine z_getRn (m := 27) rfl fl_X4_26 rfl kd_0 rfl ?_
      refine z_iload_n rfl rfl ?_
      refine z_iconst rfl rfl ?_
      refine z_isub rfl ?_
      refine z_aload_n rfl rfl ?_
      refine z_getRn (m := 27) rfl fl_X4_26 rfl kd_0 rfl ?_
      refine z_iload_n rfl rfl ?_
      refine z_aaload rfl kd_27 (fun q3 => ?_)
      refine z_aastoreL kd_27 q3 rfl (fun h4 => ?_)
      refine z_iinc rfl rfl rfl ?_
      refine z_goto rfl ?_
      refine Z.weak ?_ (ih _ _)
      exact wkL_c (wkL_c (wkL_c (wkL_nil _)))
set_option maxRecDepth 20000 in
set_option maxHeartbeats 1000000 in
theorem t_X4_forgetOldestState  (h : Hp) : Ct M_X4_forgetOldestState [vr 0] h (f_X4_forgetOldestState  h) := by
  refine Ct.mk ok_X4_forgetOldestState pl_X4_forgetOldestState rfl rfl ?_
  show Z M_X4_forgetOldestState 0 0 0 [some (vr 0), none, none] [] h (f_X4_forgetOldestState  h)
  unfold f_X4_forgetOldestState
  refine z_aload_n rfl rfl ?_
  refine z_getRn (m := 27) rfl fl_X4_26 rfl kd_0 rfl ?_
  refine z_iconst rfl rfl ?_
  refine z_aaload rfl kd_27 (fun q1 => ?_)
  refine z_astore_nQ q1 rfl rfl (fun y2 ky2 => ?_)
  refine z_iconst rfl rfl ?_
  refine z_istore_n rfl rfl ?_
  refine Z.weak ?_ (t_X4_forgetOldestState_L7 y2 ky2  _  ?_  fu _ _)
  · exact wkL_c (wkL_c (wkL_c (wkL_nil _)))
  · intro h5
    refine z_aload_n rfl rfl ?_
    refine z_getRn (m := 27) rfl fl_X4_26 rfl kd_0 rfl ?_
    refine z_aload_n rfl rfl ?_
    refine z_getRn (m := 27) rfl fl_X4_26 rfl kd_0 rfl ?_
    refine z_alen (c := 3) rfl kd_27 (by omega) ?_
    refine z_iconst rfl rfl ?_
    refine z_isub rfl ?_
    refine z_aload_n rfl rfl ?_
    refine z_aastoreL kd_27 ky2 rfl (fun h6 => ?_)
    refine z_aload_n rfl rfl ?_
    refine z_dup rfl rfl ?_
    refine z_getI rfl fl_X4_30 rfl kd_0 ?_
    refine z_iconst rfl rfl ?_
    refine z_isub rfl ?_
    refine z_putL fi_X4_30 rfl kd_0 rfl (fun h7 => ?_)
    exact z_return rfl rfl
set_option maxRecDepth 20000 in
set_option maxHeartbeats 1000000 in
theorem t_X4_recorded (x1 : Int) (h : Hp) : Ct M_X4_recorded [vr 0, vi x1] h (f_X4_recorded x1 h) := by
  refine Ct.mk ok_X4_recorded pl_X4_recorded rfl rfl ?_
  show Z M_X4_recorded 0 0 0 [some (vr 0), some (vi x1)] [] h (f_X4_recorded x1 h)
  unfold f_X4_recorded
  refine z_iload_n rfl rfl ?_
  refine z_if_lt rfl ?_ ?_
  · refine z_iload_n rfl rfl ?_
    exact z_ireturn rfl rfl
  · refine z_aload_n rfl rfl ?_
    refine z_dup rfl rfl ?_
    refine z_getI rfl fl_X4_30 rfl kd_0 ?_
    refine z_iconst rfl rfl ?_
    refine z_iadd rfl ?_
    refine z_putL fi_X4_30 rfl kd_0 rfl (fun h1 => ?_)
    refine z_aload_n rfl rfl ?_
    refine z_getI rfl fl_X4_30 rfl kd_0 ?_
    refine z_iconst rfl rfl ?_
    refine z_icmp_le rfl ?_ ?_
    · refine z_iload_n rfl rfl ?_
      exact z_ireturn rfl rfl
    · refine z_aload_n rfl rfl ?_
      refine z_V0v ko4 mv_X4_192 kd_0 (t_X4_forgetOldestState  _) rfl rfl rfl rfl rfl (fun _ h2 => ?_)
      refine z_iload_n rfl rfl ?_
      exact z_ireturn rfl rfl
set_option maxRecDepth 20000 in
set_option maxHeartbeats 1000000 in
theorem t_X4_isValue (x0 : Int) (h : Hp) : Ct M_X4_isValue [vi x0] h (f_X4_isValue x0 h) := by
  refine Ct.mk ok_X4_isValue pl_X4_isValue rfl rfl ?_
  show Z M_X4_isValue 0 0 0 [some (vi x0)] [] h (f_X4_isValue x0 h)
  unfold f_X4_isValue
  refine z_iload_n rfl rfl ?_
  refine z_if_lt rfl ?_ ?_
  · refine z_iconst rfl rfl ?_
    exact z_zret0 rfl rfl
  · refine z_iload_n rfl rfl ?_
    refine z_bipush rfl rfl ?_
    refine z_icmp_ge rfl ?_ ?_
    · refine z_iconst rfl rfl ?_
      exact z_zret0 rfl rfl
    · refine z_iconst rfl rfl ?_
      refine z_goto rfl ?_
      exact z_zret1 rfl rfl
set_option maxRecDepth 20000 in
set_option maxHeartbeats 1000000 in
theorem t_X4_isValueOrNotTold (x0 : Int) (h : Hp) : Ct M_X4_isValueOrNotTold [vi x0] h (f_X4_isValueOrNotTold x0 h) := by
  refine Ct.mk ok_X4_isValueOrNotTold pl_X4_isValueOrNotTold rfl rfl ?_
  show Z M_X4_isValueOrNotTold 0 0 0 [some (vi x0)] [] h (f_X4_isValueOrNotTold x0 h)
  unfold f_X4_isValueOrNotTold
  refine z_iload_n rfl rfl ?_
  refine z_iconst rfl rfl ?_
  refine z_icmp_eq rfl ?_ ?_
  · refine z_iconst rfl rfl ?_
    refine z_goto rfl ?_
    exact z_zret1 rfl rfl
  · refine z_iload_n rfl rfl ?_
    refine z_S1i ms_X4_138 (t_X4_isValue _ _) rfl rfl rfl rfl rfl (fun r1 h1 => ?_)
    refine z_if_eq rfl ?_ ?_
    · refine z_iconst rfl rfl ?_
      exact z_zret0 rfl rfl
    · refine z_iconst rfl rfl ?_
      refine z_goto rfl ?_
      exact z_zret1 rfl rfl
set_option maxRecDepth 20000 in
set_option maxHeartbeats 1000000 in
theorem t_X1_addTo (x0 : Nat) (k0 : kd x0 = (1, 0)) (x1 : Int) (x2 : Int) (h : Hp) : Ct M_X1_addTo [vr x0, vi x1, vi x2] h (f_X1_addTo x0 x1 x2 h) := by
  refine Ct.mk ok_X1_addTo pl_X1_addTo rfl rfl ?_
  show Z M_X1_addTo 0 0 0 [some (vr x0), some (vi x1), some (vi x2)] [] h (f_X1_addTo x0 x1 x2 h)
  unfold f_X1_addTo
  refine z_iload_n rfl rfl ?_
  refine z_if_lt rfl ?_ ?_
  · exact z_return rfl rfl
  · refine z_iload_n rfl rfl ?_
    refine z_aload_n rfl rfl ?_
    refine z_getR rfl fl_X1_28 rfl k0 ?_
    refine z_alen (c := 0) rfl (kO_8 k0) (by omega) ?_
    refine z_icmp_ge rfl ?_ ?_
    · exact z_return rfl rfl
    · refine z_aload_n rfl rfl ?_
      refine z_getR rfl fl_X1_28 rfl k0 ?_
      refine z_iload_n rfl rfl ?_
      refine z_dup2 rfl rfl rfl ?_
      refine z_iaload rfl (kO_8 k0) ?_
      refine z_iload_n rfl rfl ?_
      refine z_iadd rfl ?_
      refine z_iastoreL (kO_8 k0) rfl (fun h1 => ?_)
      exact z_return rfl rfl
set_option maxRecDepth 20000 in
set_option maxHeartbeats 1000000 in
theorem t_X2_append (x0 : Nat) (k0 : kd x0 = (2, 0)) (x1 : Int) (x2 : Int) (x3 : Int) (x4 : Int) (h : Hp) : Ct M_X2_append [vr x0, vi x1, vi x2, vi x3, vi x4] h (f_X2_append x0 x1 x2 x3 x4 h) := by
  refine Ct.mk ok_X2_append pl_X2_append rfl rfl ?_
  show Z M_X2_append 0 0 0 [some (vr x0), some (vi x1), some (vi x2), some (vi x3), some (vi x4), none] [] h (f_X2_append x0 x1 x2 x3 x4 h)
  unfold f_X2_append
  refine z_aload_n rfl rfl ?_
  refine z_getI rfl fl_X2_15 rfl k0 ?_
  refine z_bipush rfl rfl ?_
  refine z_imul rfl ?_
  refine z_istoreL rfl rfl (fun y1 => ?_)
  refine z_iload rfl rfl ?_
  refine z_if_lt rfl ?_ ?_
  · refine z_iconst rfl rfl ?_
    exact z_ireturn rfl rfl
  · refine z_iload rfl rfl ?_
    refine z_bipush rfl rfl ?_
    refine z_iadd rfl ?_
    refine z_aload_n rfl rfl ?_
    refine z_getR rfl fl_X2_9 rfl k0 ?_
    refine z_alen (c := 0) rfl (kR_1 k0) (by omega) ?_
    refine z_icmp_le rfl ?_ ?_
    · refine z_aload_n rfl rfl ?_
      refine z_getR rfl fl_X2_9 rfl k0 ?_
      refine z_iload rfl rfl ?_
      refine z_iload_n rfl rfl ?_
      refine z_iastoreL (kR_1 k0) rfl (fun h2 => ?_)
      refine z_aload_n rfl rfl ?_
      refine z_getR rfl fl_X2_9 rfl k0 ?_
      refine z_iload rfl rfl ?_
      refine z_iconst rfl rfl ?_
      refine z_iadd rfl ?_
      refine z_iload_n rfl rfl ?_
      refine z_iastoreL (kR_1 k0) rfl (fun h3 => ?_)
      refine z_aload_n rfl rfl ?_
      refine z_getR rfl fl_X2_9 rfl k0 ?_
      refine z_iload rfl rfl ?_
      refine z_iconst rfl rfl ?_
      refine z_iadd rfl ?_
      refine z_iload_n rfl rfl ?_
      refine z_iastoreL (kR_1 k0) rfl (fun h4 => ?_)
      refine z_aload_n rfl rfl ?_
      refine z_getR rfl fl_X2_9 rfl k0 ?_
      refine z_iload rfl rfl ?_
      refine z_iconst rfl rfl ?_
      refine z_iadd rfl ?_
      refine z_iload rfl rfl ?_
      refine z_iastoreL (kR_1 k0) rfl (fun h5 => ?_)
      refine z_aload_n rfl rfl ?_
      refine z_getR rfl fl_X2_9 rfl k0 ?_
      refine z_iload rfl rfl ?_
      refine z_iconst rfl rfl ?_
      refine z_iadd rfl ?_
      refine z_iconst rfl rfl ?_
      refine z_iastoreL (kR_1 k0) rfl (fun h6 => ?_)
      refine z_aload_n rfl rfl ?_
      refine z_getR rfl fl_X2_9 rfl k0 ?_
      refine z_iload rfl rfl ?_
      refine z_iconst rfl rfl ?_
      refine z_iadd rfl ?_
      refine z_iconst rfl rfl ?_
      refine z_iastoreL (kR_1 k0) rfl (fun h7 => ?_)
      refine z_aload_n rfl rfl ?_
      refine z_dup rfl rfl ?_
      refine z_getI rfl fl_X2_15 rfl k0 ?_
      refine z_iconst rfl rfl ?_
      refine z_iadd rfl ?_
      refine z_putL fi_X2_15 rfl k0 rfl (fun h8 => ?_)
      refine z_aload_n rfl rfl ?_
      refine z_getI rfl fl_X2_15 rfl k0 ?_
      refine z_iconst rfl rfl ?_
      refine z_isub rfl ?_
      exact z_ireturn rfl rfl
    · refine z_iconst rfl rfl ?_
      exact z_ireturn rfl rfl
set_option maxRecDepth 20000 in
set_option maxHeartbeats 1000000 in
theorem t_X1_takeClaim_J28 (x0 : Nat) (k0 : kd x0 = (1, 0)) (x1 : Int) (x2 : Int) (x3 : Int) (x4 : Int) (h : Hp) : Z M_X1_takeClaim 0 0 28 [some (vr x0), some (vi x1), some (vi x2), some (vi x3), some (vi x4)] [] h (f_X1_takeClaim_J28 x0 x1 x2 x3 x4 h) := by
  unfold f_X1_takeClaim_J28
  refine z_aload_n rfl rfl ?_
  refine z_getR rfl fl_X1_18 rfl k0 ?_
  refine z_getI rfl fl_X1_44 rfl (kO_3 k0) ?_
  refine z_bipush rfl rfl ?_
  refine z_icmp_lt rfl ?_ ?_
  · refine z_aload_n rfl rfl ?_
    refine z_bipush rfl rfl ?_
    refine z_iconst rfl rfl ?_
    refine z_V2v ko1 mv_X1_61 k0 (t_X1_addTo x0 k0 _ _ _) rfl rfl rfl rfl rfl (fun _ h5 => ?_)
    refine z_aload_n rfl rfl ?_
    refine z_getR rfl fl_X1_18 rfl k0 ?_
    refine z_iload_n rfl rfl ?_
    refine z_iload_n rfl rfl ?_
    refine z_iload_n rfl rfl ?_
    refine z_iload rfl rfl ?_
    refine z_V4i ko2 mv_X1_65 (kO_3 k0) (t_X2_append (x0 + 3) (kO_3 k0) _ _ _ _ _) rfl rfl rfl rfl rfl rfl (fun r6 h6 => ?_)
    exact z_ireturn rfl rfl
  · refine z_ldc rfl cst_X1_60 rfl ?_
    exact z_ireturn rfl rfl
set_option maxRecDepth 20000 in
set_option maxHeartbeats 1000000 in
theorem t_X1_takeClaim (x0 : Nat) (k0 : kd x0 = (1, 0)) (x1 : Int) (x2 : Int) (x3 : Int) (x4 : Int) (h : Hp) : Ct M_X1_takeClaim [vr x0, vi x1, vi x2, vi x3, vi x4] h (f_X1_takeClaim x0 x1 x2 x3 x4 h) := by
  refine Ct.mk ok_X1_takeClaim pl_X1_takeClaim rfl rfl ?_
  show Z M_X1_takeClaim 0 0 0 [some (vr x0), some (vi x1), some (vi x2), some (vi x3), some (vi x4)] [] h (f_X1_takeClaim x0 x1 x2 x3 x4 h)
  unfold f_X1_takeClaim
  refine z_iload_n rfl rfl ?_
  refine z_N1i mn_X1_69 (t_X4_isValueOrNotTold _ _) rfl rfl rfl rfl rfl (fun r1 h1 => ?_)
  refine z_if_eq rfl ?_ ?_
  · refine z_ldc rfl cst_X1_59 rfl ?_
    exact z_ireturn rfl rfl
  · refine z_iload_n rfl rfl ?_
    refine z_N1i mn_X1_69 (t_X4_isValueOrNotTold _ _) rfl rfl rfl rfl rfl (fun r2 h2 => ?_)
    refine z_if_eq rfl ?_ ?_
    · refine z_ldc rfl cst_X1_59 rfl ?_
      exact z_ireturn rfl rfl
    · refine z_iload_n rfl rfl ?_
      refine z_N1i mn_X1_69 (t_X4_isValueOrNotTold _ _) rfl rfl rfl rfl rfl (fun r3 h3 => ?_)
      refine z_if_eq rfl ?_ ?_
      · refine z_ldc rfl cst_X1_59 rfl ?_
        exact z_ireturn rfl rfl
      · refine z_iload rfl rfl ?_
        refine z_N1i mn_X1_69 (t_X4_isValueOrNotTold _ _) rfl rfl rfl rfl rfl (fun r4 h4 => ?_)
        refine z_if_ne rfl ?_ ?_
        · refine z_iload_n rfl rfl ?_
          refine z_iconst rfl rfl ?_
          refine z_icmp_ne rfl ?_ ?_
          · refine Z.weak ?_ (t_X1_takeClaim_J28 x0 k0 _ _ _ _  _)
            exact wkL_c (wkL_c (wkL_c (wkL_c (wkL_c (wkL_nil _)))))
          · refine z_iload_n rfl rfl ?_
            refine z_iconst rfl rfl ?_
            refine z_icmp_ne rfl ?_ ?_
            · refine Z.weak ?_ (t_X1_takeClaim_J28 x0 k0 _ _ _ _  _)
              exact wkL_c (wkL_c (wkL_c (wkL_c (wkL_c (wkL_nil _)))))
            · refine z_iload_n rfl rfl ?_
              refine z_iconst rfl rfl ?_
              refine z_icmp_ne rfl ?_ ?_
              · refine Z.weak ?_ (t_X1_takeClaim_J28 x0 k0 _ _ _ _  _)
                exact wkL_c (wkL_c (wkL_c (wkL_c (wkL_c (wkL_nil _)))))
              · refine z_iload rfl rfl ?_
                refine z_iconst rfl rfl ?_
                refine z_icmp_ne rfl ?_ ?_
                · refine Z.weak ?_ (t_X1_takeClaim_J28 x0 k0 _ _ _ _  _)
                  exact wkL_c (wkL_c (wkL_c (wkL_c (wkL_c (wkL_nil _)))))
                · refine z_ldc rfl cst_X1_72 rfl ?_
                  exact z_ireturn rfl rfl
        · refine z_ldc rfl cst_X1_59 rfl ?_
          exact z_ireturn rfl rfl
set_option maxRecDepth 20000 in
set_option maxHeartbeats 1000000 in
theorem t_X4_claim (x1 : Int) (x2 : Int) (x3 : Int) (x4 : Int) (h : Hp) : Ct M_X4_claim [vr 0, vi x1, vi x2, vi x3, vi x4] h (f_X4_claim x1 x2 x3 x4 h) := by
  refine Ct.mk ok_X4_claim pl_X4_claim rfl rfl ?_
  show Z M_X4_claim 0 0 0 [some (vr 0), some (vi x1), some (vi x2), some (vi x3), some (vi x4)] [] h (f_X4_claim x1 x2 x3 x4 h)
  unfold f_X4_claim
  refine z_aload_n rfl rfl ?_
  refine z_V0v ko4 mv_X4_53 kd_0 (t_X4_keepState  _) rfl rfl rfl rfl rfl (fun _ h1 => ?_)
  refine z_aload_n rfl rfl ?_
  refine z_aload_n rfl rfl ?_
  refine z_getRn (m := 1) rfl fl_X4_10 rfl kd_0 rfl ?_
  refine z_iload_n rfl rfl ?_
  refine z_iload_n rfl rfl ?_
  refine z_iload_n rfl rfl ?_
  refine z_iload rfl rfl ?_
  refine z_V4i ko1 mv_X4_64 kd_1 (t_X1_takeClaim 1 kd_1 _ _ _ _ _) rfl rfl rfl rfl rfl rfl (fun r2 h2 => ?_)
  refine z_V1i ko4 mv_X4_60 kd_0 (t_X4_recorded _ _) rfl rfl rfl rfl rfl rfl (fun r3 h3 => ?_)
  exact z_ireturn rfl rfl
set_option maxRecDepth 20000 in
set_option maxHeartbeats 1000000 in
theorem t_X2_has (x0 : Nat) (k0 : kd x0 = (2, 0)) (x1 : Int) (h : Hp) : Ct M_X2_has [vr x0, vi x1] h (f_X2_has x0 x1 h) := by
  refine Ct.mk ok_X2_has pl_X2_has rfl rfl ?_
  show Z M_X2_has 0 0 0 [some (vr x0), some (vi x1)] [] h (f_X2_has x0 x1 h)
  unfold f_X2_has
  refine z_iload_n rfl rfl ?_
  refine z_if_lt rfl ?_ ?_
  · refine z_iconst rfl rfl ?_
    exact z_zret0 rfl rfl
  · refine z_iload_n rfl rfl ?_
    refine z_aload_n rfl rfl ?_
    refine z_getI rfl fl_X2_15 rfl k0 ?_
    refine z_icmp_ge rfl ?_ ?_
    · refine z_iconst rfl rfl ?_
      exact z_zret0 rfl rfl
    · refine z_iconst rfl rfl ?_
      refine z_goto rfl ?_
      exact z_zret1 rfl rfl
set_option maxRecDepth 20000 in
set_option maxHeartbeats 1000000 in
theorem t_X2_remove_L11 (x0 : Nat) (k0 : kd x0 = (2, 0)) : ∀ (n : Nat) (x2 : Int) (h : Hp), Z M_X2_remove 0 0 11 [some (vr x0), none, some (vi x2)] [] h (f_X2_remove_L11 x0 n x2 h) := by
  intro n
  induction n with
  | zero => intro x2 h; exact Z.nix
  | succ n ih =>
    intro x2 h
    rw [f_X2_remove_L11_s]
    refine z_iload_n rfl rfl ?_
    refine z_bipush rfl rfl ?_
    refine z_iadd rfl ?_
    refine z_aload_n rfl rfl ?_
    refine z_getR rfl fl_X2_9 rfl k0 ?_
    refine z_alen (c := 0) rfl (kR_1 k0) (by omega) ?_
    refine z_icmp_ge rfl ?_ ?_
    · refine z_aload_n rfl rfl ?_
      refine z_dup rfl rfl ?_
      refine z_getI rfl fl_X2_15 rfl k0 ?_
      refine z_iconst rfl rfl ?_
      refine z_isub rfl ?_
      refine z_putL fi_X2_15 rfl k0 rfl (fun h2 => ?_)
      exact z_return rfl rfl
    · refine z_aload_n rfl rfl ?_
      refine z_getR rfl fl_X2_9 rfl k0 ?_
      refine z_iload_n rfl rfl ?_
      refine z_aload_n rfl rfl ?_
      refine z_getR rfl fl_X2_9 rfl k0 ?_
      refine z_iload_n rfl rfl ?_
      refine z_bipush rfl rfl ?_
      refine z_iadd rfl ?_
      refine z_iaload rfl (kR_1 k0) ?_
      refine z_iastoreL (kR_1 k0) rfl (fun h3 => ?_)
      refine z_iinc rfl rfl rfl ?_
      refine z_goto rfl ?_
      refine Z.weak ?_ (ih _ _)
      exact wkL_c (wkL_n (wkL_c (wkL_nil _)))
set_option maxRecDepth 20000 in
set_option maxHeartbeats 1000000 in
theorem t_X2_remove (x0 : Nat) (k0 : kd x0 = (2, 0)) (x1 : Int) (h : Hp) : Ct M_X2_remove [vr x0, vi x1] h (f_X2_remove x0 x1 h) := by
  refine Ct.mk ok_X2_remove pl_X2_remove rfl rfl ?_
  show Z M_X2_remove 0 0 0 [some (vr x0), some (vi x1), none] [] h (f_X2_remove x0 x1 h)
  unfold f_X2_remove
  refine z_iload_n rfl rfl ?_
  refine z_if_lt rfl ?_ ?_
  · exact z_return rfl rfl
  · refine z_iload_n rfl rfl ?_
    refine z_aload_n rfl rfl ?_
    refine z_getI rfl fl_X2_15 rfl k0 ?_
    refine z_icmp_lt rfl ?_ ?_
    · refine z_iload_n rfl rfl ?_
      refine z_bipush rfl rfl ?_
      refine z_imul rfl ?_
      refine z_istore_nL rfl rfl (fun y1 => ?_)
      refine Z.weak ?_ (t_X2_remove_L11 x0 k0     fu _ _)
      · exact wkL_c (wkL_n (wkL_c (wkL_nil _)))
    · exact z_return rfl rfl
set_option maxRecDepth 20000 in
set_option maxHeartbeats 1000000 in
theorem t_X1_dropClaim (x0 : Nat) (k0 : kd x0 = (1, 0)) (x1 : Int) (h : Hp) : Ct M_X1_dropClaim [vr x0, vi x1] h (f_X1_dropClaim x0 x1 h) := by
  refine Ct.mk ok_X1_dropClaim pl_X1_dropClaim rfl rfl ?_
  show Z M_X1_dropClaim 0 0 0 [some (vr x0), some (vi x1)] [] h (f_X1_dropClaim x0 x1 h)
  unfold f_X1_dropClaim
  refine z_aload_n rfl rfl ?_
  refine z_getR rfl fl_X1_18 rfl k0 ?_
  refine z_iload_n rfl rfl ?_
  refine z_V1i ko2 mv_X1_73 (kO_3 k0) (t_X2_has (x0 + 3) (kO_3 k0) _ _) rfl rfl rfl rfl rfl rfl (fun r1 h1 => ?_)
  refine z_if_ne rfl ?_ ?_
  · refine z_aload_n rfl rfl ?_
    refine z_getR rfl fl_X1_18 rfl k0 ?_
    refine z_iload_n rfl rfl ?_
    refine z_V1v ko2 mv_X1_83 (kO_3 k0) (t_X2_remove (x0 + 3) (kO_3 k0) _ _) rfl rfl rfl rfl rfl (fun _ h2 => ?_)
    refine z_aload_n rfl rfl ?_
    refine z_bipush rfl rfl ?_
    refine z_iconst rfl rfl ?_
    refine z_V2v ko1 mv_X1_61 k0 (t_X1_addTo x0 k0 _ _ _) rfl rfl rfl rfl rfl (fun _ h3 => ?_)
    refine z_aload_n rfl rfl ?_
    refine z_getR rfl fl_X1_18 rfl k0 ?_
    refine z_getI rfl fl_X1_44 rfl (kO_3 k0) ?_
    exact z_ireturn rfl rfl
  · refine z_ldc rfl cst_X1_59 rfl ?_
    exact z_ireturn rfl rfl
set_option maxRecDepth 20000 in
set_option maxHeartbeats 1000000 in
theorem t_X4_drop (x1 : Int) (h : Hp) : Ct M_X4_drop [vr 0, vi x1] h (f_X4_drop x1 h) := by
  refine Ct.mk ok_X4_drop pl_X4_drop rfl rfl ?_
  show Z M_X4_drop 0 0 0 [some (vr 0), some (vi x1)] [] h (f_X4_drop x1 h)
  unfold f_X4_drop
  refine z_aload_n rfl rfl ?_
  refine z_V0v ko4 mv_X4_53 kd_0 (t_X4_keepState  _) rfl rfl rfl rfl rfl (fun _ h1 => ?_)
  refine z_aload_n rfl rfl ?_
  refine z_aload_n rfl rfl ?_
  refine z_getRn (m := 1) rfl fl_X4_10 rfl kd_0 rfl ?_
  refine z_iload_n rfl rfl ?_
  refine z_V1i ko1 mv_X4_71 kd_1 (t_X1_dropClaim 1 kd_1 _ _) rfl rfl rfl rfl rfl rfl (fun r2 h2 => ?_)
  refine z_V1i ko4 mv_X4_60 kd_0 (t_X4_recorded _ _) rfl rfl rfl rfl rfl rfl (fun r3 h3 => ?_)
  exact z_ireturn rfl rfl
set_option maxRecDepth 20000 in
set_option maxHeartbeats 1000000 in
theorem t_X1_takeUmbrella (x0 : Nat) (k0 : kd x0 = (1, 0)) (x1 : Int) (x2 : Int) (x3 : Int) (x4 : Int) (h : Hp) : Ct M_X1_takeUmbrella [vr x0, vi x1, vi x2, vi x3, vi x4] h (f_X1_takeUmbrella x0 x1 x2 x3 x4 h) := by
  refine Ct.mk ok_X1_takeUmbrella pl_X1_takeUmbrella rfl rfl ?_
  show Z M_X1_takeUmbrella 0 0 0 [some (vr x0), some (vi x1), some (vi x2), some (vi x3), some (vi x4)] [] h (f_X1_takeUmbrella x0 x1 x2 x3 x4 h)
  unfold f_X1_takeUmbrella
  refine z_iload_n rfl rfl ?_
  refine z_N1i mn_X1_55 (t_X4_isValue _ _) rfl rfl rfl rfl rfl (fun r1 h1 => ?_)
  refine z_if_eq rfl ?_ ?_
  · refine z_ldc rfl cst_X1_59 rfl ?_
    exact z_ireturn rfl rfl
  · refine z_iload_n rfl rfl ?_
    refine z_N1i mn_X1_55 (t_X4_isValue _ _) rfl rfl rfl rfl rfl (fun r2 h2 => ?_)
    refine z_if_eq rfl ?_ ?_
    · refine z_ldc rfl cst_X1_59 rfl ?_
      exact z_ireturn rfl rfl
    · refine z_iload_n rfl rfl ?_
      refine z_N1i mn_X1_55 (t_X4_isValue _ _) rfl rfl rfl rfl rfl (fun r3 h3 => ?_)
      refine z_if_eq rfl ?_ ?_
      · refine z_ldc rfl cst_X1_59 rfl ?_
        exact z_ireturn rfl rfl
      · refine z_iload rfl rfl ?_
        refine z_N1i mn_X1_55 (t_X4_isValue _ _) rfl rfl rfl rfl rfl (fun r4 h4 => ?_)
        refine z_if_ne rfl ?_ ?_
        · refine z_aload_n rfl rfl ?_
          refine z_getR rfl fl_X1_12 rfl k0 ?_
          refine z_getI rfl fl_X1_44 rfl (kO_1 k0) ?_
          refine z_bipush rfl rfl ?_
          refine z_icmp_lt rfl ?_ ?_
          · refine z_aload_n rfl rfl ?_
            refine z_iconst rfl rfl ?_
            refine z_iconst rfl rfl ?_
            refine z_V2v ko1 mv_X1_61 k0 (t_X1_addTo x0 k0 _ _ _) rfl rfl rfl rfl rfl (fun _ h5 => ?_)
            refine z_aload_n rfl rfl ?_
            refine z_getR rfl fl_X1_12 rfl k0 ?_
            refine z_iload_n rfl rfl ?_
            refine z_iload_n rfl rfl ?_
            refine z_iload_n rfl rfl ?_
            refine z_iload rfl rfl ?_
            refine z_V4i ko2 mv_X1_65 (kO_1 k0) (t_X2_append (x0 + 1) (kO_1 k0) _ _ _ _ _) rfl rfl rfl rfl rfl rfl (fun r6 h6 => ?_)
            exact z_ireturn rfl rfl
          · refine z_ldc rfl cst_X1_60 rfl ?_
            exact z_ireturn rfl rfl
        · refine z_ldc rfl cst_X1_59 rfl ?_
          exact z_ireturn rfl rfl
set_option maxRecDepth 20000 in
set_option maxHeartbeats 1000000 in
theorem t_X4_find (x1 : Int) (x2 : Int) (x3 : Int) (x4 : Int) (h : Hp) : Ct M_X4_find [vr 0, vi x1, vi x2, vi x3, vi x4] h (f_X4_find x1 x2 x3 x4 h) := by
  refine Ct.mk ok_X4_find pl_X4_find rfl rfl ?_
  show Z M_X4_find 0 0 0 [some (vr 0), some (vi x1), some (vi x2), some (vi x3), some (vi x4)] [] h (f_X4_find x1 x2 x3 x4 h)
  unfold f_X4_find
  refine z_aload_n rfl rfl ?_
  refine z_V0v ko4 mv_X4_53 kd_0 (t_X4_keepState  _) rfl rfl rfl rfl rfl (fun _ h1 => ?_)
  refine z_aload_n rfl rfl ?_
  refine z_aload_n rfl rfl ?_
  refine z_getRn (m := 1) rfl fl_X4_10 rfl kd_0 rfl ?_
  refine z_iload_n rfl rfl ?_
  refine z_iload_n rfl rfl ?_
  refine z_iload_n rfl rfl ?_
  refine z_iload rfl rfl ?_
  refine z_V4i ko1 mv_X4_56 kd_1 (t_X1_takeUmbrella 1 kd_1 _ _ _ _ _) rfl rfl rfl rfl rfl rfl (fun r2 h2 => ?_)
  refine z_V1i ko4 mv_X4_60 kd_0 (t_X4_recorded _ _) rfl rfl rfl rfl rfl rfl (fun r3 h3 => ?_)
  exact z_ireturn rfl rfl
set_option maxRecDepth 20000 in
set_option maxHeartbeats 1000000 in
theorem t_X0_aheadOf (x1 : Int) (x2 : Int) (h : Hp) : Ct M_X0_aheadOf [vr 19, vi x1, vi x2] h (f_X0_aheadOf x1 x2 h) := by
  refine Ct.mk ok_X0_aheadOf pl_X0_aheadOf rfl rfl ?_
  show Z M_X0_aheadOf 0 0 0 [some (vr 19), some (vi x1), some (vi x2)] [] h (f_X0_aheadOf x1 x2 h)
  unfold f_X0_aheadOf
  refine z_iload_n rfl rfl ?_
  refine z_if_lt rfl ?_ ?_
  · refine z_iload_n rfl rfl ?_
    exact z_ireturn rfl rfl
  · refine z_iload_n rfl rfl ?_
    refine z_sipush rfl rfl ?_
    refine z_icmp_lt rfl ?_ ?_
    · refine z_iload_n rfl rfl ?_
      refine z_if_lt rfl ?_ ?_
      · refine z_iload_n rfl rfl ?_
        exact z_ireturn rfl rfl
      · refine z_iload_n rfl rfl ?_
        refine z_sipush rfl rfl ?_
        refine z_icmp_lt rfl ?_ ?_
        · refine z_aload_n rfl rfl ?_
          refine z_getRn (m := 21) rfl fl_X0_15 rfl kd_19 rfl ?_
          refine z_iload_n rfl rfl ?_
          refine z_iaload rfl kd_21 ?_
          refine z_aload_n rfl rfl ?_
          refine z_getRn (m := 21) rfl fl_X0_15 rfl kd_19 rfl ?_
          refine z_iload_n rfl rfl ?_
          refine z_iaload rfl kd_21 ?_
          refine z_icmp_eq rfl ?_ ?_
          · refine z_iload_n rfl rfl ?_
            refine z_iload_n rfl rfl ?_
            refine z_S2i ms_X0_54 (t_J_min _ _ _) rfl rfl rfl rfl rfl (fun r1 h1 => ?_)
            exact z_ireturn rfl rfl
          · refine z_aload_n rfl rfl ?_
            refine z_getRn (m := 21) rfl fl_X0_15 rfl kd_19 rfl ?_
            refine z_iload_n rfl rfl ?_
            refine z_iaload rfl kd_21 ?_
            refine z_aload_n rfl rfl ?_
            refine z_getRn (m := 21) rfl fl_X0_15 rfl kd_19 rfl ?_
            refine z_iload_n rfl rfl ?_
            refine z_iaload rfl kd_21 ?_
            refine z_icmp_le rfl ?_ ?_
            · refine z_iload_n rfl rfl ?_
              exact z_ireturn rfl rfl
            · refine z_iload_n rfl rfl ?_
              refine z_goto rfl ?_
              exact z_ireturn rfl rfl
        · refine z_iload_n rfl rfl ?_
          exact z_ireturn rfl rfl
    · refine z_iload_n rfl rfl ?_
      exact z_ireturn rfl rfl
set_option maxRecDepth 20000 in
set_option maxHeartbeats 1000000 in
theorem t_X0_claimMatched (x1 : Int) (h : Hp) : Ct M_X0_claimMatched [vr 19, vi x1] h (f_X0_claimMatched x1 h) := by
  refine Ct.mk ok_X0_claimMatched pl_X0_claimMatched rfl rfl ?_
  show Z M_X0_claimMatched 0 0 0 [some (vr 19), some (vi x1)] [] h (f_X0_claimMatched x1 h)
  unfold f_X0_claimMatched
  refine z_iload_n rfl rfl ?_
  refine z_if_lt rfl ?_ ?_
  · refine z_iconst rfl rfl ?_
    exact z_ireturn rfl rfl
  · refine z_iload_n rfl rfl ?_
    refine z_bipush rfl rfl ?_
    refine z_icmp_ge rfl ?_ ?_
    · refine z_iconst rfl rfl ?_
      exact z_ireturn rfl rfl
    · refine z_aload_n rfl rfl ?_
      refine z_getRn (m := 25) rfl fl_X0_28 rfl kd_19 rfl ?_
      refine z_iload_n rfl rfl ?_
      refine z_iaload rfl kd_25 ?_
      refine z_goto rfl ?_
      exact z_ireturn rfl rfl
set_option maxRecDepth 20000 in
set_option maxHeartbeats 1000000 in
theorem t_X0_pairOf (x1 : Int) (x2 : Int) (h : Hp) : Ct M_X0_pairOf [vr 19, vi x1, vi x2] h (f_X0_pairOf x1 x2 h) := by
  refine Ct.mk ok_X0_pairOf pl_X0_pairOf rfl rfl ?_
  show Z M_X0_pairOf 0 0 0 [some (vr 19), some (vi x1), some (vi x2), none] [] h (f_X0_pairOf x1 x2 h)
  unfold f_X0_pairOf
  refine z_iload_n rfl rfl ?_
  refine z_if_lt rfl ?_ ?_
  · refine z_iconst rfl rfl ?_
    exact z_ireturn rfl rfl
  · refine z_iload_n rfl rfl ?_
    refine z_aload_n rfl rfl ?_
    refine z_getI rfl fl_X0_34 rfl kd_19 ?_
    refine z_icmp_ge rfl ?_ ?_
    · refine z_iconst rfl rfl ?_
      exact z_ireturn rfl rfl
    · refine z_iload_n rfl rfl ?_
      refine z_if_lt rfl ?_ ?_
      · refine z_iconst rfl rfl ?_
        exact z_ireturn rfl rfl
      · refine z_iload_n rfl rfl ?_
        refine z_aload_n rfl rfl ?_
        refine z_getI rfl fl_X0_38 rfl kd_19 ?_
        refine z_icmp_lt rfl ?_ ?_
        · refine z_iload_n rfl rfl ?_
          refine z_bipush rfl rfl ?_
          refine z_imul rfl ?_
          refine z_iload_n rfl rfl ?_
          refine z_iadd rfl ?_
          refine z_istore_nL rfl rfl (fun y1 => ?_)
          refine z_iload_n rfl rfl ?_
          refine z_if_lt rfl ?_ ?_
          · refine z_iconst rfl rfl ?_
            exact z_ireturn rfl rfl
          · refine z_iload_n rfl rfl ?_
            refine z_sipush rfl rfl ?_
            refine z_icmp_ge rfl ?_ ?_
            · refine z_iconst rfl rfl ?_
              exact z_ireturn rfl rfl
            · refine z_iload_n rfl rfl ?_
              refine z_goto rfl ?_
              exact z_ireturn rfl rfl
        · refine z_iconst rfl rfl ?_
          exact z_ireturn rfl rfl
set_option maxRecDepth 20000 in
set_option maxHeartbeats 1000000 in
theorem t_X0_suits (x1 : Int) (x2 : Int) (h : Hp) : Ct M_X0_suits [vr 19, vi x1, vi x2] h (f_X0_suits x1 x2 h) := by
  refine Ct.mk ok_X0_suits pl_X0_suits rfl rfl ?_
  show Z M_X0_suits 0 0 0 [some (vr 19), some (vi x1), some (vi x2), none] [] h (f_X0_suits x1 x2 h)
  unfold f_X0_suits
  refine z_aload_n rfl rfl ?_
  refine z_iload_n rfl rfl ?_
  refine z_iload_n rfl rfl ?_
  refine z_V2i ko0 mv_X0_81 kd_19 (t_X0_pairOf _ _ _) rfl rfl rfl rfl rfl rfl (fun r1 h1 => ?_)
  refine z_istore_n rfl rfl ?_
  refine z_iload_n rfl rfl ?_
  refine z_if_lt rfl ?_ ?_
  · refine z_iconst rfl rfl ?_
    exact z_zret0 rfl rfl
  · refine z_iload_n rfl rfl ?_
    refine z_sipush rfl rfl ?_
    refine z_icmp_ge rfl ?_ ?_
    · refine z_iconst rfl rfl ?_
      exact z_zret0 rfl rfl
    · refine z_aload_n rfl rfl ?_
      refine z_getRn (m := 22) rfl fl_X0_18 rfl kd_19 rfl ?_
      refine z_iload_n rfl rfl ?_
      refine z_baload rfl kd_22 ?_
      refine z_if_eq rfl ?_ ?_
      · refine z_iconst rfl rfl ?_
        exact z_zret0 rfl rfl
      · refine z_iconst rfl rfl ?_
        refine z_goto rfl ?_
        exact z_zret1 rfl rfl
set_option maxRecDepth 20000 in
set_option maxHeartbeats 1000000 in
theorem t_X0_umbrellaMatched (x1 : Int) (h : Hp) : Ct M_X0_umbrellaMatched [vr 19, vi x1] h (f_X0_umbrellaMatched x1 h) := by
  refine Ct.mk ok_X0_umbrellaMatched pl_X0_umbrellaMatched rfl rfl ?_
  show Z M_X0_umbrellaMatched 0 0 0 [some (vr 19), some (vi x1)] [] h (f_X0_umbrellaMatched x1 h)
  unfold f_X0_umbrellaMatched
  refine z_iload_n rfl rfl ?_
  refine z_if_lt rfl ?_ ?_
  · refine z_iconst rfl rfl ?_
    exact z_ireturn rfl rfl
  · refine z_iload_n rfl rfl ?_
    refine z_bipush rfl rfl ?_
    refine z_icmp_ge rfl ?_ ?_
    · refine z_iconst rfl rfl ?_
      exact z_ireturn rfl rfl
    · refine z_aload_n rfl rfl ?_
      refine z_getRn (m := 26) rfl fl_X0_31 rfl kd_19 rfl ?_
      refine z_iload_n rfl rfl ?_
      refine z_iaload rfl kd_26 ?_
      refine z_goto rfl ?_
      exact z_ireturn rfl rfl
set_option maxRecDepth 20000 in
set_option maxHeartbeats 1000000 in
theorem t_X0_bestFreePair_L16 (x2 : Int) (c40 : Int → Hp → Option (Int × Hp)) (hc40 : ∀ (y1 : Int) (h : Hp), Z M_X0_bestFreePair 0 0 40 [some (vr 19), some (vi y1), some (vi x2), none] [] h (c40 y1 h)) : ∀ (n : Nat) (x1 : Int) (x3 : Int) (h : Hp), Z M_X0_bestFreePair 0 0 16 [some (vr 19), some (vi x1), some (vi x2), some (vi x3)] [] h (f_X0_bestFreePair_L16 x2 c40 n x1 x3 h) := by
  intro n
  induction n with
  | zero => intro x1 x3 h; exact Z.nix
  | succ n ih =>
    intro x1 x3 h
    rw [f_X0_bestFreePair_L16_s]
    refine z_iload_n rfl rfl ?_
    refine z_aload_n rfl rfl ?_
    refine z_getI rfl fl_X0_38 rfl kd_19 ?_
    refine z_icmp_ge rfl ?_ ?_
    · refine Z.weak ?_ (hc40 _ _)
      exact wkL_c (wkL_c (wkL_c (wkL_n (wkL_nil _))))
    · refine z_aload_n rfl rfl ?_
      refine z_iload_n rfl rfl ?_
      refine z_V1i ko0 mv_X0_105 kd_19 (t_X0_umbrellaMatched _ _) rfl rfl rfl rfl rfl rfl (fun r2 h2 => ?_)
      refine z_iconst rfl rfl ?_
      refine z_icmp_ne rfl ?_ ?_
      · refine z_iinc rfl rfl rfl ?_
        refine z_goto rfl ?_
        refine Z.weak ?_ (ih _ _ _)
        exact wkL_c (wkL_c (wkL_c (wkL_c (wkL_nil _))))
      · refine z_aload_n rfl rfl ?_
        refine z_iload_n rfl rfl ?_
        refine z_iload_n rfl rfl ?_
        refine z_V2i ko0 mv_X0_84 kd_19 (t_X0_suits _ _ _) rfl rfl rfl rfl rfl rfl (fun r3 h3 => ?_)
        refine z_if_eq rfl ?_ ?_
        · refine z_iinc rfl rfl rfl ?_
          refine z_goto rfl ?_
          refine Z.weak ?_ (ih _ _ _)
          exact wkL_c (wkL_c (wkL_c (wkL_c (wkL_nil _))))
        · refine z_aload_n rfl rfl ?_
          refine z_aload_n rfl rfl ?_
          refine z_iload_n rfl rfl ?_
          refine z_iload_n rfl rfl ?_
          refine z_V2i ko0 mv_X0_81 kd_19 (t_X0_pairOf _ _ _) rfl rfl rfl rfl rfl rfl (fun r4 h4 => ?_)
          refine z_iload_n rfl rfl ?_
          refine z_V2i ko0 mv_X0_108 kd_19 (t_X0_aheadOf _ _ _) rfl rfl rfl rfl rfl rfl (fun r5 h5 => ?_)
          refine z_istore_n rfl rfl ?_
          refine z_iinc rfl rfl rfl ?_
          refine z_goto rfl ?_
          refine Z.weak ?_ (ih _ _ _)
          exact wkL_c (wkL_c (wkL_c (wkL_c (wkL_nil _))))
set_option maxRecDepth 20000 in
set_option maxHeartbeats 1000000 in
theorem t_X0_bestFreePair_L4  : ∀ (n : Nat) (x1 : Int) (x2 : Int) (h : Hp), Z M_X0_bestFreePair 0 0 4 [some (vr 19), some (vi x1), some (vi x2), none] [] h (f_X0_bestFreePair_L4  n x1 x2 h) := by
  intro n
  induction n with
  | zero => intro x1 x2 h; exact Z.nix
  | succ n ih =>
    intro x1 x2 h
    rw [f_X0_bestFreePair_L4_s]
    refine z_iload_n rfl rfl ?_
    refine z_aload_n rfl rfl ?_
    refine z_getI rfl fl_X0_34 rfl kd_19 ?_
    refine z_icmp_ge rfl ?_ ?_
    · refine z_iload_n rfl rfl ?_
      exact z_ireturn rfl rfl
    · refine z_aload_n rfl rfl ?_
      refine z_iload_n rfl rfl ?_
      refine z_V1i ko0 mv_X0_102 kd_19 (t_X0_claimMatched _ _) rfl rfl rfl rfl rfl rfl (fun r1 h1 => ?_)
      refine z_iconst rfl rfl ?_
      refine z_icmp_eq rfl ?_ ?_
      · refine z_iconst rfl rfl ?_
        refine z_istore_n rfl rfl ?_
        refine Z.weak ?_ (t_X0_bestFreePair_L16  _  _  ?_  fu _ _ _)
        · exact wkL_c (wkL_c (wkL_c (wkL_c (wkL_nil _))))
        · intro y6 h7
          refine z_iinc rfl rfl rfl ?_
          refine z_goto rfl ?_
          refine Z.weak ?_ (ih _ _ _)
          exact wkL_c (wkL_c (wkL_c (wkL_n (wkL_nil _))))
      · refine z_goto rfl ?_
        refine z_iinc rfl rfl rfl ?_
        refine z_goto rfl ?_
        refine Z.weak ?_ (ih _ _ _)
        exact wkL_c (wkL_c (wkL_c (wkL_n (wkL_nil _))))
set_option maxRecDepth 20000 in
set_option maxHeartbeats 1000000 in
theorem t_X0_bestFreePair  (h : Hp) : Ct M_X0_bestFreePair [vr 19] h (f_X0_bestFreePair  h) := by
  refine Ct.mk ok_X0_bestFreePair pl_X0_bestFreePair rfl rfl ?_
  show Z M_X0_bestFreePair 0 0 0 [some (vr 19), none, none, none] [] h (f_X0_bestFreePair  h)
  unfold f_X0_bestFreePair
  refine z_iconst rfl rfl ?_
  refine z_istore_n rfl rfl ?_
  refine z_iconst rfl rfl ?_
  refine z_istore_n rfl rfl ?_
  refine Z.weak ?_ (t_X0_bestFreePair_L4      fu _ _ _)
  · exact wkL_c (wkL_c (wkL_c (wkL_n (wkL_nil _))))
set_option maxRecDepth 20000 in
set_option maxHeartbeats 1000000 in
theorem t_X0_join (x1 : Int) (x2 : Int) (h : Hp) : Ct M_X0_join [vr 19, vi x1, vi x2] h (f_X0_join x1 x2 h) := by
  refine Ct.mk ok_X0_join pl_X0_join rfl rfl ?_
  show Z M_X0_join 0 0 0 [some (vr 19), some (vi x1), some (vi x2)] [] h (f_X0_join x1 x2 h)
  unfold f_X0_join
  refine z_iload_n rfl rfl ?_
  refine z_if_lt rfl ?_ ?_
  · exact z_return rfl rfl
  · refine z_iload_n rfl rfl ?_
    refine z_bipush rfl rfl ?_
    refine z_icmp_ge rfl ?_ ?_
    · exact z_return rfl rfl
    · refine z_iload_n rfl rfl ?_
      refine z_if_lt rfl ?_ ?_
      · exact z_return rfl rfl
      · refine z_iload_n rfl rfl ?_
        refine z_bipush rfl rfl ?_
        refine z_icmp_ge rfl ?_ ?_
        · exact z_return rfl rfl
        · refine z_aload_n rfl rfl ?_
          refine z_getRn (m := 25) rfl fl_X0_28 rfl kd_19 rfl ?_
          refine z_iload_n rfl rfl ?_
          refine z_iload_n rfl rfl ?_
          refine z_iastoreL kd_25 rfl (fun h1 => ?_)
          refine z_aload_n rfl rfl ?_
          refine z_getRn (m := 26) rfl fl_X0_31 rfl kd_19 rfl ?_
          refine z_iload_n rfl rfl ?_
          refine z_iload_n rfl rfl ?_
          refine z_iastoreL kd_26 rfl (fun h2 => ?_)
          refine z_aload_n rfl rfl ?_
          refine z_dup rfl rfl ?_
          refine z_getI rfl fl_X0_41 rfl kd_19 ?_
          refine z_iconst rfl rfl ?_
          refine z_iadd rfl ?_
          refine z_putL fi_X0_41 rfl kd_19 rfl (fun h3 => ?_)
          exact z_return rfl rfl
set_option maxRecDepth 20000 in
set_option maxHeartbeats 1000000 in
theorem t_X0_matchNone_L2 (c14 : Hp → Option (Int × Hp)) (hc14 : ∀ (h : Hp), Z M_X0_matchNone 0 0 14 [some (vr 19), none] [] h (c14  h)) : ∀ (n : Nat) (x1 : Int) (h : Hp), Z M_X0_matchNone 0 0 2 [some (vr 19), some (vi x1)] [] h (f_X0_matchNone_L2 c14 n x1 h) := by
  intro n
  induction n with
  | zero => intro x1 h; exact Z.nix
  | succ n ih =>
    intro x1 h
    rw [f_X0_matchNone_L2_s]
    refine z_iload_n rfl rfl ?_
    refine z_aload_n rfl rfl ?_
    refine z_getRn (m := 25) rfl fl_X0_28 rfl kd_19 rfl ?_
    refine z_alen (c := 0) rfl kd_25 (by omega) ?_
    refine z_icmp_ge rfl ?_ ?_
    · refine Z.weak ?_ (hc14 _)
      exact wkL_c (wkL_n (wkL_nil _))
    · refine z_aload_n rfl rfl ?_
      refine z_getRn (m := 25) rfl fl_X0_28 rfl kd_19 rfl ?_
      refine z_iload_n rfl rfl ?_
      refine z_iconst rfl rfl ?_
      refine z_iastoreL kd_25 rfl (fun h1 => ?_)
      refine z_iinc rfl rfl rfl ?_
      refine z_goto rfl ?_
      refine Z.weak ?_ (ih _ _)
      exact wkL_c (wkL_c (wkL_nil _))
set_option maxRecDepth 20000 in
set_option maxHeartbeats 1000000 in
theorem t_X0_matchNone_L16  : ∀ (n : Nat) (x1 : Int) (h : Hp), Z M_X0_matchNone 0 0 16 [some (vr 19), some (vi x1)] [] h (f_X0_matchNone_L16  n x1 h) := by
  intro n
  induction n with
  | zero => intro x1 h; exact Z.nix
  | succ n ih =>
    intro x1 h
    rw [f_X0_matchNone_L16_s]
    refine z_iload_n rfl rfl ?_
    refine z_aload_n rfl rfl ?_
    refine z_getRn (m := 26) rfl fl_X0_31 rfl kd_19 rfl ?_
    refine z_alen (c := 0) rfl kd_26 (by omega) ?_
    refine z_icmp_ge rfl ?_ ?_
    · refine z_aload_n rfl rfl ?_
      refine z_iconst rfl rfl ?_
      refine z_putL fi_X0_41 rfl kd_19 rfl (fun h3 => ?_)
      exact z_return rfl rfl
    · refine z_aload_n rfl rfl ?_
      refine z_getRn (m := 26) rfl fl_X0_31 rfl kd_19 rfl ?_
      refine z_iload_n rfl rfl ?_
      refine z_iconst rfl rfl ?_
      refine z_iastoreL kd_26 rfl (fun h4 => ?_)
      refine z_iinc rfl rfl rfl ?_
      refine z_goto rfl ?_
      refine Z.weak ?_ (ih _ _)
      exact wkL_c (wkL_c (wkL_nil _))
set_option maxRecDepth 20000 in
set_option maxHeartbeats 1000000 in
theorem t_X0_matchNone  (h : Hp) : Ct M_X0_matchNone [vr 19] h (f_X0_matchNone  h) := by
  refine Ct.mk ok_X0_matchNone pl_X0_matchNone rfl rfl ?_
  show Z M_X0_matchNone 0 0 0 [some (vr 19), none] [] h (f_X0_matchNone  h)
  unfold f_X0_matchNone
  refine z_iconst rfl rfl ?_
  refine z_istore_n rfl rfl ?_
  refine Z.weak ?_ (t_X0_matchNone_L2   _  ?_  fu _ _)
  · exact wkL_c (wkL_c (wkL_nil _))
  · intro h2
    refine z_iconst rfl rfl ?_
    refine z_istore_n rfl rfl ?_
    refine Z.weak ?_ (t_X0_matchNone_L16      fu _ _)
    · exact wkL_c (wkL_c (wkL_nil _))
set_option maxRecDepth 20000 in
set_option maxHeartbeats 1000000 in
theorem t_X2_cell (x0 : Nat) (k0 : kd x0 = (2, 0)) (x1 : Int) (x2 : Int) (h : Hp) : Ct M_X2_cell [vr x0, vi x1, vi x2] h (f_X2_cell x0 x1 x2 h) := by
  refine Ct.mk ok_X2_cell pl_X2_cell rfl rfl ?_
  show Z M_X2_cell 0 0 0 [some (vr x0), some (vi x1), some (vi x2), none] [] h (f_X2_cell x0 x1 x2 h)
  unfold f_X2_cell
  refine z_iload_n rfl rfl ?_
  refine z_if_lt rfl ?_ ?_
  · refine z_iconst rfl rfl ?_
    exact z_ireturn rfl rfl
  · refine z_iload_n rfl rfl ?_
    refine z_aload_n rfl rfl ?_
    refine z_getI rfl fl_X2_15 rfl k0 ?_
    refine z_icmp_ge rfl ?_ ?_
    · refine z_iconst rfl rfl ?_
      exact z_ireturn rfl rfl
    · refine z_iload_n rfl rfl ?_
      refine z_if_lt rfl ?_ ?_
      · refine z_iconst rfl rfl ?_
        exact z_ireturn rfl rfl
      · refine z_iload_n rfl rfl ?_
        refine z_bipush rfl rfl ?_
        refine z_icmp_lt rfl ?_ ?_
        · refine z_iload_n rfl rfl ?_
          refine z_bipush rfl rfl ?_
          refine z_imul rfl ?_
          refine z_iload_n rfl rfl ?_
          refine z_iadd rfl ?_
          refine z_istore_nL rfl rfl (fun y1 => ?_)
          refine z_iload_n rfl rfl ?_
          refine z_if_lt rfl ?_ ?_
          · refine z_iconst rfl rfl ?_
            exact z_ireturn rfl rfl
          · refine z_iload_n rfl rfl ?_
            refine z_aload_n rfl rfl ?_
            refine z_getR rfl fl_X2_9 rfl k0 ?_
            refine z_alen (c := 0) rfl (kR_1 k0) (by omega) ?_
            refine z_icmp_ge rfl ?_ ?_
            · refine z_iconst rfl rfl ?_
              exact z_ireturn rfl rfl
            · refine z_aload_n rfl rfl ?_
              refine z_getR rfl fl_X2_9 rfl k0 ?_
              refine z_iload_n rfl rfl ?_
              refine z_iaload rfl (kR_1 k0) ?_
              refine z_goto rfl ?_
              exact z_ireturn rfl rfl
        · refine z_iconst rfl rfl ?_
          exact z_ireturn rfl rfl
