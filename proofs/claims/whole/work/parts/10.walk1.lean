/-! printed by wip/gen/gen.py: the bytecode does what the functions say -/
set_option maxRecDepth 20000 in
set_option maxHeartbeats 1000000 in
theorem t_J_isLatin1 (x0 : Nat) (n0 : Nat) (k0 : kd x0 = (31, n0)) (h : Hp) : Ct M_J_isLatin1 [vr x0] h (f_J_isLatin1 x0 n0 h) := by
  refine Ct.mk ok_J_isLatin1 pl_J_isLatin1 rfl rfl ?_
  show Z M_J_isLatin1 0 [some (vr x0)] [] h (f_J_isLatin1 x0 n0 h)
  unfold f_J_isLatin1
  refine z_comp sf_J0_38 rfl ?_
  refine z_if_eq rfl ?_ ?_
  · refine z_iconst rfl rfl ?_
    exact z_zret0 rfl rfl
  · refine z_aload_n rfl rfl ?_
    refine z_scod k0 sf_J0_15 rfl ?_
    refine z_if_ne rfl ?_ ?_
    · refine z_iconst rfl rfl ?_
      exact z_zret0 rfl rfl
    · refine z_iconst rfl rfl ?_
      refine z_goto rfl ?_
      exact z_zret1 rfl rfl
set_option maxRecDepth 20000 in
set_option maxHeartbeats 1000000 in
theorem t_J_preCheck (x0 : Int) (x1 : Int) (x2 : Value) (hv_x2 : x2.category = 1) (h : Hp) : Ct M_J_preCheck [vi x0, vi x1, vx x2] h (f_J_preCheck x0 x1 h) := by
  have e9 : lsA [vi x0, vi x1, vx x2] = [some (vi x0), some (vi x1), some (vx x2)] := by simp [lsA, acat, hv_x2]
  refine Ct.mk ok_J_preCheck pl_J_preCheck rfl (by rw [e9]; rfl) ?_
  rw [e9]
  show Z M_J_preCheck 0 [some (vi x0), some (vi x1), some (vx x2)] [] h (f_J_preCheck x0 x1 h)
  unfold f_J_preCheck
  refine z_iload_n rfl rfl ?_
  refine z_if_lt rfl ?_ ?_
  · exact Z.nix
  · refine z_iload_n rfl rfl ?_
    refine z_iload_n rfl rfl ?_
    refine z_icmp_lt rfl ?_ ?_
    · refine z_iload_n rfl rfl ?_
      exact z_ireturn rfl rfl
    · exact Z.nix
set_option maxRecDepth 20000 in
set_option maxHeartbeats 1000000 in
theorem t_J_checkIndex (x0 : Int) (x1 : Int) (h : Hp) : Ct M_J_checkIndex [vi x0, vi x1] h (f_J_checkIndex x0 x1 h) := by
  refine Ct.mk ok_J_checkIndex pl_J_checkIndex rfl rfl ?_
  show Z M_J_checkIndex 0 [some (vi x0), some (vi x1)] [] h (f_J_checkIndex x0 x1 h)
  unfold f_J_checkIndex
  refine z_iload_n rfl rfl ?_
  refine z_iload_n rfl rfl ?_
  refine z_sioo sf_J0_1053 rfl (fun v1 hv1 => ?_)
  refine z_S3i ms_J0_1059 (t_J_preCheck _ _ _ hv1 _) rfl rfl rfl rfl (fun r2 h2 => ?_)
  refine z_pop rfl rfl ?_
  exact z_return rfl rfl
set_option maxRecDepth 20000 in
set_option maxHeartbeats 1000000 in
theorem t_J_latinAt (x0 : Nat) (n0 : Nat) (k0 : kd x0 = (32, n0)) (x1 : Int) (h : Hp) : Ct M_J_latinAt [vr x0, vi x1] h (f_J_latinAt x0 n0 x1 h) := by
  refine Ct.mk ok_J_latinAt pl_J_latinAt rfl rfl ?_
  show Z M_J_latinAt 0 [some (vr x0), some (vi x1)] [] h (f_J_latinAt x0 n0 x1 h)
  unfold f_J_latinAt
  refine z_iload_n rfl rfl ?_
  refine z_aload_n rfl rfl ?_
  refine z_blen k0 rfl ?_
  refine z_S2v ms_J1_9 (t_J_checkIndex _ _ _) rfl rfl rfl rfl (fun _ h1 => ?_)
  refine z_aload_n rfl rfl ?_
  refine z_iload_n rfl rfl ?_
  refine z_bald k0 rfl ?_
  refine z_sipush rfl rfl ?_
  refine z_iand255 rfl ?_
  refine z_i2c rfl ?_
  exact z_cret rfl rfl
set_option maxRecDepth 20000 in
set_option maxHeartbeats 1000000 in
theorem t_J_charAt (x0 : Nat) (n0 : Nat) (k0 : kd x0 = (31, n0)) (x1 : Int) (h : Hp) : Ct M_J_charAt [vr x0, vi x1] h (f_J_charAt x0 n0 x1 h) := by
  refine Ct.mk ok_J_charAt pl_J_charAt rfl rfl ?_
  show Z M_J_charAt 0 [some (vr x0), some (vi x1)] [] h (f_J_charAt x0 n0 x1 h)
  unfold f_J_charAt
  refine z_aload_n rfl rfl ?_
  refine z_T0i mv_J0_492 k0 (t_J_isLatin1 x0 n0 k0 _) rfl rfl rfl rfl rfl (fun r1 h1 => ?_)
  refine z_if_eq rfl ?_ ?_
  · exact Z.nix
  · refine z_aload_n rfl rfl ?_
    refine z_sval k0 sf_J0_9 rfl ?_
    refine z_iload_n rfl rfl ?_
    refine z_S2i ms_J0_495 (t_J_latinAt (x0 + 5) n0 (kT_5 k0) _ _) rfl rfl rfl rfl (fun r2 h2 => ?_)
    exact z_cret rfl rfl
set_option maxRecDepth 20000 in
set_option maxHeartbeats 1000000 in
theorem t_J_coder (x0 : Nat) (n0 : Nat) (k0 : kd x0 = (31, n0)) (h : Hp) : Ct M_J_coder [vr x0] h (f_J_coder x0 n0 h) := by
  refine Ct.mk ok_J_coder pl_J_coder rfl rfl ?_
  show Z M_J_coder 0 [some (vr x0)] [] h (f_J_coder x0 n0 h)
  unfold f_J_coder
  refine z_comp sf_J0_38 rfl ?_
  refine z_if_eq rfl ?_ ?_
  · refine z_iconst rfl rfl ?_
    exact z_ret rfl rfl rfl
  · refine z_aload_n rfl rfl ?_
    refine z_scod k0 sf_J0_15 rfl ?_
    refine z_goto rfl ?_
    exact z_ret rfl rfl rfl
set_option maxRecDepth 20000 in
set_option maxHeartbeats 1000000 in
theorem t_J_length (x0 : Nat) (n0 : Nat) (k0 : kd x0 = (31, n0)) (h : Hp) : Ct M_J_length [vr x0] h (f_J_length x0 n0 h) := by
  refine Ct.mk ok_J_length pl_J_length rfl rfl ?_
  show Z M_J_length 0 [some (vr x0)] [] h (f_J_length x0 n0 h)
  unfold f_J_length
  refine z_aload_n rfl rfl ?_
  refine z_sval k0 sf_J0_9 rfl ?_
  refine z_blen (kT_5 k0) rfl ?_
  refine z_aload_n rfl rfl ?_
  refine z_T0i mv_J0_335 k0 (t_J_coder x0 n0 k0 _) rfl rfl rfl rfl rfl (fun r1 h1 => ?_)
  refine z_ishrG rfl ?_
  exact z_ireturn rfl rfl
set_option maxRecDepth 20000 in
set_option maxHeartbeats 1000000 in
theorem t_J_min (x0 : Int) (x1 : Int) (h : Hp) : Ct M_J_min [vi x0, vi x1] h (f_J_min x0 x1 h) := by
  refine Ct.mk ok_J_min pl_J_min rfl rfl ?_
  show Z M_J_min 0 [some (vi x0), some (vi x1)] [] h (f_J_min x0 x1 h)
  unfold f_J_min
  refine z_iload_n rfl rfl ?_
  refine z_iload_n rfl rfl ?_
  refine z_icmp_gt rfl ?_ ?_
  · refine z_iload_n rfl rfl ?_
    exact z_ireturn rfl rfl
  · refine z_iload_n rfl rfl ?_
    refine z_goto rfl ?_
    exact z_ireturn rfl rfl
set_option maxRecDepth 20000 in
set_option maxHeartbeats 1000000 in
theorem t_J_isNaN (x0 : UInt32) (h : Hp) : Ct M_J_isNaN [vx (.float x0)] h (f_J_isNaN x0 h) := by
  refine Ct.mk ok_J_isNaN pl_J_isNaN rfl rfl ?_
  show Z M_J_isNaN 0 [some (vx (.float x0))] [] h (f_J_isNaN x0 h)
  unfold f_J_isNaN
  refine z_fload_n rfl rfl ?_
  refine z_fload_n rfl rfl ?_
  refine z_fcmp rfl ?_
  refine z_if_eq rfl ?_ ?_
  · refine z_iconst rfl rfl ?_
    exact z_zret0 rfl rfl
  · refine z_iconst rfl rfl ?_
    refine z_goto rfl ?_
    exact z_zret1 rfl rfl
set_option maxRecDepth 20000 in
set_option maxHeartbeats 1000000 in
theorem t_J_floatToIntBits (x0 : UInt32) (h : Hp) : Ct M_J_floatToIntBits [vx (.float x0)] h (f_J_floatToIntBits x0 h) := by
  refine Ct.mk ok_J_floatToIntBits pl_J_floatToIntBits rfl rfl ?_
  show Z M_J_floatToIntBits 0 [some (vx (.float x0))] [] h (f_J_floatToIntBits x0 h)
  unfold f_J_floatToIntBits
  refine z_fload_n rfl rfl ?_
  refine z_S1i ms_Jxf58ca_59 (t_J_isNaN _ _) rfl rfl rfl rfl (fun r1 h1 => ?_)
  refine z_if_ne rfl ?_ ?_
  · refine z_ldc rfl cst_Jxf58ca_77 rfl ?_
    exact z_ireturn rfl rfl
  · refine z_fload_n rfl rfl ?_
    refine z_rawbits rb_Jxf58ca_74 rfl rfl rfl ?_
    exact z_ireturn rfl rfl
set_option maxRecDepth 20000 in
set_option maxHeartbeats 1000000 in
theorem t_X0_aheadOf (x1 : Int) (x2 : Int) (h : Hp) : Ct M_X0_aheadOf [vr 19, vi x1, vi x2] h (f_X0_aheadOf x1 x2 h) := by
  refine Ct.mk ok_X0_aheadOf pl_X0_aheadOf rfl rfl ?_
  show Z M_X0_aheadOf 0 [some (vr 19), some (vi x1), some (vi x2)] [] h (f_X0_aheadOf x1 x2 h)
  unfold f_X0_aheadOf
  refine z_iload_n rfl rfl ?_
  refine z_if_lt rfl ?_ ?_
  · refine z_iload_n rfl rfl ?_
    exact z_ireturn rfl rfl
  · refine z_iload_n rfl rfl ?_
    refine z_sipush rfl rfl ?_
    refine z_icmp_lt rfl ?_ ?_
    · refine z_iload_n rfl rfl ?_
      refine z_if_lt rfl ?_ ?_
      · refine z_iload_n rfl rfl ?_
        exact z_ireturn rfl rfl
      · refine z_iload_n rfl rfl ?_
        refine z_sipush rfl rfl ?_
        refine z_icmp_lt rfl ?_ ?_
        · refine z_aload_n rfl rfl ?_
          refine z_getRn (m := 21) rfl fl_X0_15 rfl kd_19 rfl ?_
          refine z_iload_n rfl rfl ?_
          refine z_iaload rfl kd_21 ?_
          refine z_aload_n rfl rfl ?_
          refine z_getRn (m := 21) rfl fl_X0_15 rfl kd_19 rfl ?_
          refine z_iload_n rfl rfl ?_
          refine z_iaload rfl kd_21 ?_
          refine z_icmp_eq rfl ?_ ?_
          · refine z_iload_n rfl rfl ?_
            refine z_iload_n rfl rfl ?_
            refine z_S2i ms_X0_54 (t_J_min _ _ _) rfl rfl rfl rfl (fun r1 h1 => ?_)
            exact z_ireturn rfl rfl
          · refine z_aload_n rfl rfl ?_
            refine z_getRn (m := 21) rfl fl_X0_15 rfl kd_19 rfl ?_
            refine z_iload_n rfl rfl ?_
            refine z_iaload rfl kd_21 ?_
            refine z_aload_n rfl rfl ?_
            refine z_getRn (m := 21) rfl fl_X0_15 rfl kd_19 rfl ?_
            refine z_iload_n rfl rfl ?_
            refine z_iaload rfl kd_21 ?_
            refine z_icmp_le rfl ?_ ?_
            · refine z_iload_n rfl rfl ?_
              exact z_ireturn rfl rfl
            · refine z_iload_n rfl rfl ?_
              refine z_goto rfl ?_
              exact z_ireturn rfl rfl
        · refine z_iload_n rfl rfl ?_
          exact z_ireturn rfl rfl
    · refine z_iload_n rfl rfl ?_
      exact z_ireturn rfl rfl
set_option maxRecDepth 20000 in
set_option maxHeartbeats 1000000 in
theorem t_X0_claimMatched (x1 : Int) (h : Hp) : Ct M_X0_claimMatched [vr 19, vi x1] h (f_X0_claimMatched x1 h) := by
  refine Ct.mk ok_X0_claimMatched pl_X0_claimMatched rfl rfl ?_
  show Z M_X0_claimMatched 0 [some (vr 19), some (vi x1)] [] h (f_X0_claimMatched x1 h)
  unfold f_X0_claimMatched
  refine z_iload_n rfl rfl ?_
  refine z_if_lt rfl ?_ ?_
  · refine z_iconst rfl rfl ?_
    exact z_ireturn rfl rfl
  · refine z_iload_n rfl rfl ?_
    refine z_bipush rfl rfl ?_
    refine z_icmp_ge rfl ?_ ?_
    · refine z_iconst rfl rfl ?_
      exact z_ireturn rfl rfl
    · refine z_aload_n rfl rfl ?_
      refine z_getRn (m := 25) rfl fl_X0_28 rfl kd_19 rfl ?_
      refine z_iload_n rfl rfl ?_
      refine z_iaload rfl kd_25 ?_
      refine z_goto rfl ?_
      exact z_ireturn rfl rfl
set_option maxRecDepth 20000 in
set_option maxHeartbeats 1000000 in
theorem t_X0_join (x1 : Int) (x2 : Int) (h : Hp) : Ct M_X0_join [vr 19, vi x1, vi x2] h (f_X0_join x1 x2 h) := by
  refine Ct.mk ok_X0_join pl_X0_join rfl rfl ?_
  show Z M_X0_join 0 [some (vr 19), some (vi x1), some (vi x2)] [] h (f_X0_join x1 x2 h)
  unfold f_X0_join
  refine z_iload_n rfl rfl ?_
  refine z_if_lt rfl ?_ ?_
  · exact z_return rfl rfl
  · refine z_iload_n rfl rfl ?_
    refine z_bipush rfl rfl ?_
    refine z_icmp_ge rfl ?_ ?_
    · exact z_return rfl rfl
    · refine z_iload_n rfl rfl ?_
      refine z_if_lt rfl ?_ ?_
      · exact z_return rfl rfl
      · refine z_iload_n rfl rfl ?_
        refine z_bipush rfl rfl ?_
        refine z_icmp_ge rfl ?_ ?_
        · exact z_return rfl rfl
        · refine z_aload_n rfl rfl ?_
          refine z_getRn (m := 25) rfl fl_X0_28 rfl kd_19 rfl ?_
          refine z_iload_n rfl rfl ?_
          refine z_iload_n rfl rfl ?_
          refine z_iastoreL kd_25 rfl (fun h1 => ?_)
          refine z_aload_n rfl rfl ?_
          refine z_getRn (m := 26) rfl fl_X0_31 rfl kd_19 rfl ?_
          refine z_iload_n rfl rfl ?_
          refine z_iload_n rfl rfl ?_
          refine z_iastoreL kd_26 rfl (fun h2 => ?_)
          refine z_aload_n rfl rfl ?_
          refine z_dup rfl rfl ?_
          refine z_getI rfl fl_X0_41 rfl kd_19 ?_
          refine z_iconst rfl rfl ?_
          refine z_iadd rfl ?_
          refine z_putL fi_X0_41 rfl kd_19 rfl (fun h3 => ?_)
          exact z_return rfl rfl
set_option maxRecDepth 20000 in
set_option maxHeartbeats 1000000 in
theorem t_X0_pairOf (x1 : Int) (x2 : Int) (h : Hp) : Ct M_X0_pairOf [vr 19, vi x1, vi x2] h (f_X0_pairOf x1 x2 h) := by
  refine Ct.mk ok_X0_pairOf pl_X0_pairOf rfl rfl ?_
  show Z M_X0_pairOf 0 [some (vr 19), some (vi x1), some (vi x2), none] [] h (f_X0_pairOf x1 x2 h)
  unfold f_X0_pairOf
  refine z_iload_n rfl rfl ?_
  refine z_if_lt rfl ?_ ?_
  · refine z_iconst rfl rfl ?_
    exact z_ireturn rfl rfl
  · refine z_iload_n rfl rfl ?_
    refine z_aload_n rfl rfl ?_
    refine z_getI rfl fl_X0_34 rfl kd_19 ?_
    refine z_icmp_ge rfl ?_ ?_
    · refine z_iconst rfl rfl ?_
      exact z_ireturn rfl rfl
    · refine z_iload_n rfl rfl ?_
      refine z_if_lt rfl ?_ ?_
      · refine z_iconst rfl rfl ?_
        exact z_ireturn rfl rfl
      · refine z_iload_n rfl rfl ?_
        refine z_aload_n rfl rfl ?_
        refine z_getI rfl fl_X0_38 rfl kd_19 ?_
        refine z_icmp_lt rfl ?_ ?_
        · refine z_iload_n rfl rfl ?_
          refine z_bipush rfl rfl ?_
          refine z_imul rfl ?_
          refine z_iload_n rfl rfl ?_
          refine z_iadd rfl ?_
          refine z_istore_nL rfl rfl (fun y1 => ?_)
          refine z_iload_n rfl rfl ?_
          refine z_if_lt rfl ?_ ?_
          · refine z_iconst rfl rfl ?_
            exact z_ireturn rfl rfl
          · refine z_iload_n rfl rfl ?_
            refine z_sipush rfl rfl ?_
            refine z_icmp_ge rfl ?_ ?_
            · refine z_iconst rfl rfl ?_
              exact z_ireturn rfl rfl
            · refine z_iload_n rfl rfl ?_
              refine z_goto rfl ?_
              exact z_ireturn rfl rfl
        · refine z_iconst rfl rfl ?_
          exact z_ireturn rfl rfl
set_option maxRecDepth 20000 in
set_option maxHeartbeats 1000000 in
theorem t_X0_part (x1 : Int) (x2 : Int) (h : Hp) : Ct M_X0_part [vr 19, vi x1, vi x2] h (f_X0_part x1 x2 h) := by
  refine Ct.mk ok_X0_part pl_X0_part rfl rfl ?_
  show Z M_X0_part 0 [some (vr 19), some (vi x1), some (vi x2)] [] h (f_X0_part x1 x2 h)
  unfold f_X0_part
  refine z_iload_n rfl rfl ?_
  refine z_if_lt rfl ?_ ?_
  · exact z_return rfl rfl
  · refine z_iload_n rfl rfl ?_
    refine z_bipush rfl rfl ?_
    refine z_icmp_ge rfl ?_ ?_
    · exact z_return rfl rfl
    · refine z_iload_n rfl rfl ?_
      refine z_if_lt rfl ?_ ?_
      · exact z_return rfl rfl
      · refine z_iload_n rfl rfl ?_
        refine z_bipush rfl rfl ?_
        refine z_icmp_ge rfl ?_ ?_
        · exact z_return rfl rfl
        · refine z_aload_n rfl rfl ?_
          refine z_getRn (m := 25) rfl fl_X0_28 rfl kd_19 rfl ?_
          refine z_iload_n rfl rfl ?_
          refine z_iconst rfl rfl ?_
          refine z_iastoreL kd_25 rfl (fun h1 => ?_)
          refine z_aload_n rfl rfl ?_
          refine z_getRn (m := 26) rfl fl_X0_31 rfl kd_19 rfl ?_
          refine z_iload_n rfl rfl ?_
          refine z_iconst rfl rfl ?_
          refine z_iastoreL kd_26 rfl (fun h2 => ?_)
          refine z_aload_n rfl rfl ?_
          refine z_dup rfl rfl ?_
          refine z_getI rfl fl_X0_41 rfl kd_19 ?_
          refine z_iconst rfl rfl ?_
          refine z_isub rfl ?_
          refine z_putL fi_X0_41 rfl kd_19 rfl (fun h3 => ?_)
          exact z_return rfl rfl
set_option maxRecDepth 20000 in
set_option maxHeartbeats 1000000 in
theorem t_X0_askFor_J36 (x1 : Int) (x2 : Int) (h : Hp) : Z M_X0_askFor 36 [some (vr 19), some (vi x1), some (vi x2), none] [] h (f_X0_askFor_J36 x1 x2 h) := by
  unfold f_X0_askFor_J36
  refine z_aload_n rfl rfl ?_
  refine z_iload_n rfl rfl ?_
  refine z_iload_n rfl rfl ?_
  refine z_bipush rfl rfl ?_
  refine z_irem rfl rfl ?_
  refine z_V2v ko0 mv_X0_98 kd_19 (t_X0_join _ _ _) rfl rfl rfl rfl rfl (fun _ h4 => ?_)
  exact z_return rfl rfl
set_option maxRecDepth 20000 in
set_option maxHeartbeats 1000000 in
theorem t_X0_askFor (x1 : Int) (h : Hp) : Ct M_X0_askFor [vr 19, vi x1] h (f_X0_askFor x1 h) := by
  refine Ct.mk ok_X0_askFor pl_X0_askFor rfl rfl ?_
  show Z M_X0_askFor 0 [some (vr 19), some (vi x1), none, none] [] h (f_X0_askFor x1 h)
  unfold f_X0_askFor
  refine z_iload_n rfl rfl ?_
  refine z_if_lt rfl ?_ ?_
  · exact z_return rfl rfl
  · refine z_iload_n rfl rfl ?_
    refine z_sipush rfl rfl ?_
    refine z_icmp_lt rfl ?_ ?_
    · refine z_aload_n rfl rfl ?_
      refine z_getRn (m := 23) rfl fl_X0_22 rfl kd_19 rfl ?_
      refine z_iload_n rfl rfl ?_
      refine z_iconst rfl rfl ?_
      refine z_bastoreL kd_23 rfl (fun h1 => ?_)
      refine z_iload_n rfl rfl ?_
      refine z_bipush rfl rfl ?_
      refine z_idiv rfl rfl ?_
      refine z_istore_nL rfl rfl (fun y2 => ?_)
      refine z_aload_n rfl rfl ?_
      refine z_iload_n rfl rfl ?_
      refine z_V1i ko0 mv_X0_102 kd_19 (t_X0_claimMatched _ _) rfl rfl rfl rfl rfl (fun r3 h3 => ?_)
      refine z_istore_n rfl rfl ?_
      refine z_iload_n rfl rfl ?_
      refine z_iconst rfl rfl ?_
      refine z_icmp_eq rfl ?_ ?_
      · refine Z.weak ?_ (t_X0_askFor_J36  _ _  _)
        exact wkL_c (wkL_c (wkL_c (wkL_n (wkL_nil _))))
      · refine z_aload_n rfl rfl ?_
        refine z_iload_n rfl rfl ?_
        refine z_aload_n rfl rfl ?_
        refine z_iload_n rfl rfl ?_
        refine z_iload_n rfl rfl ?_
        refine z_V2i ko0 mv_X0_81 kd_19 (t_X0_pairOf _ _ _) rfl rfl rfl rfl rfl (fun r5 h5 => ?_)
        refine z_V2i ko0 mv_X0_108 kd_19 (t_X0_aheadOf _ _ _) rfl rfl rfl rfl rfl (fun r6 h6 => ?_)
        refine z_iload_n rfl rfl ?_
        refine z_icmp_eq rfl ?_ ?_
        · refine z_aload_n rfl rfl ?_
          refine z_iload_n rfl rfl ?_
          refine z_iload_n rfl rfl ?_
          refine z_V2v ko0 mv_X0_124 kd_19 (t_X0_part _ _ _) rfl rfl rfl rfl rfl (fun _ h7 => ?_)
          refine Z.weak ?_ (t_X0_askFor_J36  _ _  _)
          exact wkL_c (wkL_c (wkL_c (wkL_n (wkL_nil _))))
        · exact z_return rfl rfl
    · exact z_return rfl rfl
set_option maxRecDepth 20000 in
set_option maxHeartbeats 1000000 in
theorem t_X0_suits (x1 : Int) (x2 : Int) (h : Hp) : Ct M_X0_suits [vr 19, vi x1, vi x2] h (f_X0_suits x1 x2 h) := by
  refine Ct.mk ok_X0_suits pl_X0_suits rfl rfl ?_
  show Z M_X0_suits 0 [some (vr 19), some (vi x1), some (vi x2), none] [] h (f_X0_suits x1 x2 h)
  unfold f_X0_suits
  refine z_aload_n rfl rfl ?_
  refine z_iload_n rfl rfl ?_
  refine z_iload_n rfl rfl ?_
  refine z_V2i ko0 mv_X0_81 kd_19 (t_X0_pairOf _ _ _) rfl rfl rfl rfl rfl (fun r1 h1 => ?_)
  refine z_istore_n rfl rfl ?_
  refine z_iload_n rfl rfl ?_
  refine z_if_lt rfl ?_ ?_
  · refine z_iconst rfl rfl ?_
    exact z_zret0 rfl rfl
  · refine z_iload_n rfl rfl ?_
    refine z_sipush rfl rfl ?_
    refine z_icmp_ge rfl ?_ ?_
    · refine z_iconst rfl rfl ?_
      exact z_zret0 rfl rfl
    · refine z_aload_n rfl rfl ?_
      refine z_getRn (m := 22) rfl fl_X0_18 rfl kd_19 rfl ?_
      refine z_iload_n rfl rfl ?_
      refine z_baload rfl kd_22 ?_
      refine z_if_eq rfl ?_ ?_
      · refine z_iconst rfl rfl ?_
        exact z_zret0 rfl rfl
      · refine z_iconst rfl rfl ?_
        refine z_goto rfl ?_
        exact z_zret1 rfl rfl
set_option maxRecDepth 20000 in
set_option maxHeartbeats 1000000 in
theorem t_X0_umbrellaMatched (x1 : Int) (h : Hp) : Ct M_X0_umbrellaMatched [vr 19, vi x1] h (f_X0_umbrellaMatched x1 h) := by
  refine Ct.mk ok_X0_umbrellaMatched pl_X0_umbrellaMatched rfl rfl ?_
  show Z M_X0_umbrellaMatched 0 [some (vr 19), some (vi x1)] [] h (f_X0_umbrellaMatched x1 h)
  unfold f_X0_umbrellaMatched
  refine z_iload_n rfl rfl ?_
  refine z_if_lt rfl ?_ ?_
  · refine z_iconst rfl rfl ?_
    exact z_ireturn rfl rfl
  · refine z_iload_n rfl rfl ?_
    refine z_bipush rfl rfl ?_
    refine z_icmp_ge rfl ?_ ?_
    · refine z_iconst rfl rfl ?_
      exact z_ireturn rfl rfl
    · refine z_aload_n rfl rfl ?_
      refine z_getRn (m := 26) rfl fl_X0_31 rfl kd_19 rfl ?_
      refine z_iload_n rfl rfl ?_
      refine z_iaload rfl kd_26 ?_
      refine z_goto rfl ?_
      exact z_ireturn rfl rfl
set_option maxRecDepth 20000 in
set_option maxHeartbeats 1000000 in
theorem t_X0_bestFreePair_L16 (x2 : Int) (c40 : Int → Hp → Option (Int × Hp)) (hc40 : ∀ (y1 : Int) (h : Hp), Z M_X0_bestFreePair 40 [some (vr 19), some (vi y1), some (vi x2), none] [] h (c40 y1 h)) : ∀ (n : Nat) (x1 : Int) (x3 : Int) (h : Hp), Z M_X0_bestFreePair 16 [some (vr 19), some (vi x1), some (vi x2), some (vi x3)] [] h (f_X0_bestFreePair_L16 x2 c40 n x1 x3 h) := by
  intro n
  induction n with
  | zero => intro x1 x3 h; exact Z.nix
  | succ n ih =>
    intro x1 x3 h
    rw [f_X0_bestFreePair_L16_s]
    refine z_iload_n rfl rfl ?_
    refine z_aload_n rfl rfl ?_
    refine z_getI rfl fl_X0_38 rfl kd_19 ?_
    refine z_icmp_ge rfl ?_ ?_
    · refine Z.weak ?_ (hc40 _ _)
      exact wkL_c (wkL_c (wkL_c (wkL_n (wkL_nil _))))
    · refine z_aload_n rfl rfl ?_
      refine z_iload_n rfl rfl ?_
      refine z_V1i ko0 mv_X0_105 kd_19 (t_X0_umbrellaMatched _ _) rfl rfl rfl rfl rfl (fun r2 h2 => ?_)
      refine z_iconst rfl rfl ?_
      refine z_icmp_ne rfl ?_ ?_
      · refine z_iinc rfl rfl rfl ?_
        refine z_goto rfl ?_
        refine Z.weak ?_ (ih _ _ _)
        exact wkL_c (wkL_c (wkL_c (wkL_c (wkL_nil _))))
      · refine z_aload_n rfl rfl ?_
        refine z_iload_n rfl rfl ?_
        refine z_iload_n rfl rfl ?_
        refine z_V2i ko0 mv_X0_84 kd_19 (t_X0_suits _ _ _) rfl rfl rfl rfl rfl (fun r3 h3 => ?_)
        refine z_if_eq rfl ?_ ?_
        · refine z_iinc rfl rfl rfl ?_
          refine z_goto rfl ?_
          refine Z.weak ?_ (ih _ _ _)
          exact wkL_c (wkL_c (wkL_c (wkL_c (wkL_nil _))))
        · refine z_aload_n rfl rfl ?_
          refine z_aload_n rfl rfl ?_
          refine z_iload_n rfl rfl ?_
          refine z_iload_n rfl rfl ?_
          refine z_V2i ko0 mv_X0_81 kd_19 (t_X0_pairOf _ _ _) rfl rfl rfl rfl rfl (fun r4 h4 => ?_)
          refine z_iload_n rfl rfl ?_
          refine z_V2i ko0 mv_X0_108 kd_19 (t_X0_aheadOf _ _ _) rfl rfl rfl rfl rfl (fun r5 h5 => ?_)
          refine z_istore_n rfl rfl ?_
          refine z_iinc rfl rfl rfl ?_
          refine z_goto rfl ?_
          refine Z.weak ?_ (ih _ _ _)
          exact wkL_c (wkL_c (wkL_c (wkL_c (wkL_nil _))))
set_option maxRecDepth 20000 in
set_option maxHeartbeats 1000000 in
theorem t_X0_bestFreePair_L4  : ∀ (n : Nat) (x1 : Int) (x2 : Int) (h : Hp), Z M_X0_bestFreePair 4 [some (vr 19), some (vi x1), some (vi x2), none] [] h (f_X0_bestFreePair_L4  n x1 x2 h) := by
  intro n
  induction n with
  | zero => intro x1 x2 h; exact Z.nix
  | succ n ih =>
    intro x1 x2 h
    rw [f_X0_bestFreePair_L4_s]
    refine z_iload_n rfl rfl ?_
    refine z_aload_n rfl rfl ?_
    refine z_getI rfl fl_X0_34 rfl kd_19 ?_
    refine z_icmp_ge rfl ?_ ?_
    · refine z_iload_n rfl rfl ?_
      exact z_ireturn rfl rfl
    · refine z_aload_n rfl rfl ?_
      refine z_iload_n rfl rfl ?_
      refine z_V1i ko0 mv_X0_102 kd_19 (t_X0_claimMatched _ _) rfl rfl rfl rfl rfl (fun r1 h1 => ?_)
      refine z_iconst rfl rfl ?_
      refine z_icmp_eq rfl ?_ ?_
      · refine z_iconst rfl rfl ?_
        refine z_istore_n rfl rfl ?_
        refine Z.weak ?_ (t_X0_bestFreePair_L16  _  _  ?_  fu _ _ _)
        · exact wkL_c (wkL_c (wkL_c (wkL_c (wkL_nil _))))
        · intro y6 h7
          refine z_iinc rfl rfl rfl ?_
          refine z_goto rfl ?_
          refine Z.weak ?_ (ih _ _ _)
          exact wkL_c (wkL_c (wkL_c (wkL_n (wkL_nil _))))
      · refine z_goto rfl ?_
        refine z_iinc rfl rfl rfl ?_
        refine z_goto rfl ?_
        refine Z.weak ?_ (ih _ _ _)
        exact wkL_c (wkL_c (wkL_c (wkL_n (wkL_nil _))))
set_option maxRecDepth 20000 in
set_option maxHeartbeats 1000000 in
theorem t_X0_bestFreePair  (h : Hp) : Ct M_X0_bestFreePair [vr 19] h (f_X0_bestFreePair  h) := by
  refine Ct.mk ok_X0_bestFreePair pl_X0_bestFreePair rfl rfl ?_
  show Z M_X0_bestFreePair 0 [some (vr 19), none, none, none] [] h (f_X0_bestFreePair  h)
  unfold f_X0_bestFreePair
  refine z_iconst rfl rfl ?_
  refine z_istore_n rfl rfl ?_
  refine z_iconst rfl rfl ?_
  refine z_istore_n rfl rfl ?_
  refine Z.weak ?_ (t_X0_bestFreePair_L4      fu _ _ _)
  · exact wkL_c (wkL_c (wkL_c (wkL_n (wkL_nil _))))
set_option maxRecDepth 20000 in
set_option maxHeartbeats 1000000 in
theorem t_X0_claimsSuiting_L4 (x1 : Int) : ∀ (n : Nat) (x2 : Int) (x3 : Int) (h : Hp), Z M_X0_claimsSuiting 4 [some (vr 19), some (vi x1), some (vi x2), some (vi x3)] [] h (f_X0_claimsSuiting_L4 x1 n x2 x3 h) := by
  intro n
  induction n with
  | zero => intro x2 x3 h; exact Z.nix
  | succ n ih =>
    intro x2 x3 h
    rw [f_X0_claimsSuiting_L4_s]
    refine z_iload_n rfl rfl ?_
    refine z_aload_n rfl rfl ?_
    refine z_getI rfl fl_X0_38 rfl kd_19 ?_
    refine z_icmp_ge rfl ?_ ?_
    · refine z_iload_n rfl rfl ?_
      exact z_ireturn rfl rfl
    · refine z_aload_n rfl rfl ?_
      refine z_iload_n rfl rfl ?_
      refine z_iload_n rfl rfl ?_
      refine z_V2i ko0 mv_X0_84 kd_19 (t_X0_suits _ _ _) rfl rfl rfl rfl rfl (fun r1 h1 => ?_)
      refine z_if_eq rfl ?_ ?_
      · refine z_iinc rfl rfl rfl ?_
        refine z_goto rfl ?_
        refine Z.weak ?_ (ih _ _ _)
        exact wkL_c (wkL_c (wkL_c (wkL_c (wkL_nil _))))
      · refine z_iinc rfl rfl rfl ?_
        refine z_iinc rfl rfl rfl ?_
        refine z_goto rfl ?_
        refine Z.weak ?_ (ih _ _ _)
        exact wkL_c (wkL_c (wkL_c (wkL_c (wkL_nil _))))
set_option maxRecDepth 20000 in
set_option maxHeartbeats 1000000 in
theorem t_X0_claimsSuiting (x1 : Int) (h : Hp) : Ct M_X0_claimsSuiting [vr 19, vi x1] h (f_X0_claimsSuiting x1 h) := by
  refine Ct.mk ok_X0_claimsSuiting pl_X0_claimsSuiting rfl rfl ?_
  show Z M_X0_claimsSuiting 0 [some (vr 19), some (vi x1), none, none] [] h (f_X0_claimsSuiting x1 h)
  unfold f_X0_claimsSuiting
  refine z_iconst rfl rfl ?_
  refine z_istore_n rfl rfl ?_
  refine z_iconst rfl rfl ?_
  refine z_istore_n rfl rfl ?_
  refine Z.weak ?_ (t_X0_claimsSuiting_L4  _     fu _ _ _)
  · exact wkL_c (wkL_c (wkL_c (wkL_c (wkL_nil _))))
set_option maxRecDepth 20000 in
set_option maxHeartbeats 1000000 in
theorem t_X0_matchNone_L2 (c14 : Hp → Option (Int × Hp)) (hc14 : ∀ (h : Hp), Z M_X0_matchNone 14 [some (vr 19), none] [] h (c14  h)) : ∀ (n : Nat) (x1 : Int) (h : Hp), Z M_X0_matchNone 2 [some (vr 19), some (vi x1)] [] h (f_X0_matchNone_L2 c14 n x1 h) := by
  intro n
  induction n with
  | zero => intro x1 h; exact Z.nix
  | succ n ih =>
    intro x1 h
    rw [f_X0_matchNone_L2_s]
    refine z_iload_n rfl rfl ?_
    refine z_aload_n rfl rfl ?_
    refine z_getRn (m := 25) rfl fl_X0_28 rfl kd_19 rfl ?_
    refine z_alen (c := 0) rfl kd_25 (by omega) ?_
    refine z_icmp_ge rfl ?_ ?_
    · refine Z.weak ?_ (hc14 _)
      exact wkL_c (wkL_n (wkL_nil _))
    · refine z_aload_n rfl rfl ?_
      refine z_getRn (m := 25) rfl fl_X0_28 rfl kd_19 rfl ?_
      refine z_iload_n rfl rfl ?_
      refine z_iconst rfl rfl ?_
      refine z_iastoreL kd_25 rfl (fun h1 => ?_)
      refine z_iinc rfl rfl rfl ?_
      refine z_goto rfl ?_
      refine Z.weak ?_ (ih _ _)
      exact wkL_c (wkL_c (wkL_nil _))
set_option maxRecDepth 20000 in
set_option maxHeartbeats 1000000 in
theorem t_X0_matchNone_L16  : ∀ (n : Nat) (x1 : Int) (h : Hp), Z M_X0_matchNone 16 [some (vr 19), some (vi x1)] [] h (f_X0_matchNone_L16  n x1 h) := by
  intro n
  induction n with
  | zero => intro x1 h; exact Z.nix
  | succ n ih =>
    intro x1 h
    rw [f_X0_matchNone_L16_s]
    refine z_iload_n rfl rfl ?_
    refine z_aload_n rfl rfl ?_
    refine z_getRn (m := 26) rfl fl_X0_31 rfl kd_19 rfl ?_
    refine z_alen (c := 0) rfl kd_26 (by omega) ?_
    refine z_icmp_ge rfl ?_ ?_
    · refine z_aload_n rfl rfl ?_
      refine z_iconst rfl rfl ?_
      refine z_putL fi_X0_41 rfl kd_19 rfl (fun h3 => ?_)
      exact z_return rfl rfl
    · refine z_aload_n rfl rfl ?_
      refine z_getRn (m := 26) rfl fl_X0_31 rfl kd_19 rfl ?_
      refine z_iload_n rfl rfl ?_
      refine z_iconst rfl rfl ?_
      refine z_iastoreL kd_26 rfl (fun h4 => ?_)
      refine z_iinc rfl rfl rfl ?_
      refine z_goto rfl ?_
      refine Z.weak ?_ (ih _ _)
      exact wkL_c (wkL_c (wkL_nil _))
set_option maxRecDepth 20000 in
set_option maxHeartbeats 1000000 in
theorem t_X0_matchNone  (h : Hp) : Ct M_X0_matchNone [vr 19] h (f_X0_matchNone  h) := by
  refine Ct.mk ok_X0_matchNone pl_X0_matchNone rfl rfl ?_
  show Z M_X0_matchNone 0 [some (vr 19), none] [] h (f_X0_matchNone  h)
  unfold f_X0_matchNone
  refine z_iconst rfl rfl ?_
  refine z_istore_n rfl rfl ?_
  refine Z.weak ?_ (t_X0_matchNone_L2   _  ?_  fu _ _)
  · exact wkL_c (wkL_c (wkL_nil _))
  · intro h2
    refine z_iconst rfl rfl ?_
    refine z_istore_n rfl rfl ?_
    refine Z.weak ?_ (t_X0_matchNone_L16      fu _ _)
    · exact wkL_c (wkL_c (wkL_nil _))
set_option maxRecDepth 20000 in
set_option maxHeartbeats 1000000 in
theorem t_X2_cell (x0 : Nat) (k0 : kd x0 = (2, 0)) (x1 : Int) (x2 : Int) (h : Hp) : Ct M_X2_cell [vr x0, vi x1, vi x2] h (f_X2_cell x0 x1 x2 h) := by
  refine Ct.mk ok_X2_cell pl_X2_cell rfl rfl ?_
  show Z M_X2_cell 0 [some (vr x0), some (vi x1), some (vi x2), none] [] h (f_X2_cell x0 x1 x2 h)
  unfold f_X2_cell
  refine z_iload_n rfl rfl ?_
  refine z_if_lt rfl ?_ ?_
  · refine z_iconst rfl rfl ?_
    exact z_ireturn rfl rfl
  · refine z_iload_n rfl rfl ?_
    refine z_aload_n rfl rfl ?_
    refine z_getI rfl fl_X2_15 rfl k0 ?_
    refine z_icmp_ge rfl ?_ ?_
    · refine z_iconst rfl rfl ?_
      exact z_ireturn rfl rfl
    · refine z_iload_n rfl rfl ?_
      refine z_if_lt rfl ?_ ?_
      · refine z_iconst rfl rfl ?_
        exact z_ireturn rfl rfl
      · refine z_iload_n rfl rfl ?_
        refine z_bipush rfl rfl ?_
        refine z_icmp_lt rfl ?_ ?_
        · refine z_iload_n rfl rfl ?_
          refine z_bipush rfl rfl ?_
          refine z_imul rfl ?_
          refine z_iload_n rfl rfl ?_
          refine z_iadd rfl ?_
          refine z_istore_nL rfl rfl (fun y1 => ?_)
          refine z_iload_n rfl rfl ?_
          refine z_if_lt rfl ?_ ?_
          · refine z_iconst rfl rfl ?_
            exact z_ireturn rfl rfl
          · refine z_iload_n rfl rfl ?_
            refine z_aload_n rfl rfl ?_
            refine z_getR rfl fl_X2_9 rfl k0 ?_
            refine z_alen (c := 0) rfl (kR_1 k0) (by omega) ?_
            refine z_icmp_ge rfl ?_ ?_
            · refine z_iconst rfl rfl ?_
              exact z_ireturn rfl rfl
            · refine z_aload_n rfl rfl ?_
              refine z_getR rfl fl_X2_9 rfl k0 ?_
              refine z_iload_n rfl rfl ?_
              refine z_iaload rfl (kR_1 k0) ?_
              refine z_goto rfl ?_
              exact z_ireturn rfl rfl
        · refine z_iconst rfl rfl ?_
          exact z_ireturn rfl rfl
set_option maxRecDepth 20000 in
set_option maxHeartbeats 1000000 in
theorem t_X0_noteOddness_L2 (x1 : Nat) (k1 : kd x1 = (1, 0)) (c14 : Hp → Option (Int × Hp)) (hc14 : ∀ (h : Hp), Z M_X0_noteOddness 14 [some (vr 19), some (vr x1), none, none, none] [] h (c14  h)) : ∀ (n : Nat) (x2 : Int) (h : Hp), Z M_X0_noteOddness 2 [some (vr 19), some (vr x1), some (vi x2), none, none] [] h (f_X0_noteOddness_L2 x1 c14 n x2 h) := by
  intro n
  induction n with
  | zero => intro x2 h; exact Z.nix
  | succ n ih =>
    intro x2 h
    rw [f_X0_noteOddness_L2_s]
    refine z_iload_n rfl rfl ?_
    refine z_aload_n rfl rfl ?_
    refine z_getRn (m := 24) rfl fl_X0_25 rfl kd_19 rfl ?_
    refine z_alen (c := 0) rfl kd_24 (by omega) ?_
    refine z_icmp_ge rfl ?_ ?_
    · refine Z.weak ?_ (hc14 _)
      exact wkL_c (wkL_c (wkL_n (wkL_n (wkL_n (wkL_nil _)))))
    · refine z_aload_n rfl rfl ?_
      refine z_getRn (m := 24) rfl fl_X0_25 rfl kd_19 rfl ?_
      refine z_iload_n rfl rfl ?_
      refine z_bipush rfl rfl ?_
      refine z_iastoreL kd_24 rfl (fun h1 => ?_)
      refine z_iinc rfl rfl rfl ?_
      refine z_goto rfl ?_
      refine Z.weak ?_ (ih _ _)
      exact wkL_c (wkL_c (wkL_c (wkL_n (wkL_n (wkL_nil _)))))
set_option maxRecDepth 20000 in
set_option maxHeartbeats 1000000 in
theorem t_X0_noteOddness_L22 (x1 : Nat) (k1 : kd x1 = (1, 0)) (x2 : Int) (c52 : Hp → Option (Int × Hp)) (hc52 : ∀ (h : Hp), Z M_X0_noteOddness 52 [some (vr 19), some (vr x1), some (vi x2), none, none] [] h (c52  h)) : ∀ (n : Nat) (x3 : Int) (h : Hp), Z M_X0_noteOddness 22 [some (vr 19), some (vr x1), some (vi x2), some (vi x3), none] [] h (f_X0_noteOddness_L22 x1 x2 c52 n x3 h) := by
  intro n
  induction n with
  | zero => intro x3 h; exact Z.nix
  | succ n ih =>
    intro x3 h
    rw [f_X0_noteOddness_L22_s]
    refine z_iload_n rfl rfl ?_
    refine z_iconst rfl rfl ?_
    refine z_icmp_ge rfl ?_ ?_
    · refine Z.weak ?_ (hc52 _)
      exact wkL_c (wkL_c (wkL_c (wkL_n (wkL_n (wkL_nil _)))))
    · refine z_iload_n rfl rfl ?_
      refine z_bipush rfl rfl ?_
      refine z_imul rfl ?_
      refine z_aload_n rfl rfl ?_
      refine z_getR rfl fl_X0_44 rfl k1 ?_
      refine z_iload_n rfl rfl ?_
      refine z_iload_n rfl rfl ?_
      refine z_V2i ko2 mv_X0_70 (kO_1 k1) (t_X2_cell (x1 + 1) (kO_1 k1) _ _ _) rfl rfl rfl rfl rfl (fun r3 h3 => ?_)
      refine z_iadd rfl ?_
      refine z_istoreL rfl rfl (fun y4 => ?_)
      refine z_iload rfl rfl ?_
      refine z_if_lt rfl ?_ ?_
      · refine z_iinc rfl rfl rfl ?_
        refine z_goto rfl ?_
        refine Z.weak ?_ (ih _ _)
        exact wkL_c (wkL_c (wkL_c (wkL_c (wkL_n (wkL_nil _)))))
      · refine z_iload rfl rfl ?_
        refine z_aload_n rfl rfl ?_
        refine z_getRn (m := 24) rfl fl_X0_25 rfl kd_19 rfl ?_
        refine z_alen (c := 0) rfl kd_24 (by omega) ?_
        refine z_icmp_ge rfl ?_ ?_
        · refine z_iinc rfl rfl rfl ?_
          refine z_goto rfl ?_
          refine Z.weak ?_ (ih _ _)
          exact wkL_c (wkL_c (wkL_c (wkL_c (wkL_n (wkL_nil _)))))
        · refine z_aload_n rfl rfl ?_
          refine z_getRn (m := 24) rfl fl_X0_25 rfl kd_19 rfl ?_
          refine z_iload rfl rfl ?_
          refine z_dup2 rfl rfl rfl ?_
          refine z_iaload rfl kd_24 ?_
          refine z_iconst rfl rfl ?_
          refine z_isub rfl ?_
          refine z_iastoreL kd_24 rfl (fun h5 => ?_)
          refine z_iinc rfl rfl rfl ?_
          refine z_goto rfl ?_
          refine Z.weak ?_ (ih _ _)
          exact wkL_c (wkL_c (wkL_c (wkL_c (wkL_n (wkL_nil _)))))
set_option maxRecDepth 20000 in
set_option maxHeartbeats 1000000 in
theorem t_X0_noteOddness_L16 (x1 : Nat) (k1 : kd x1 = (1, 0)) : ∀ (n : Nat) (x2 : Int) (h : Hp), Z M_X0_noteOddness 16 [some (vr 19), some (vr x1), some (vi x2), none, none] [] h (f_X0_noteOddness_L16 x1 n x2 h) := by
  intro n
  induction n with
  | zero => intro x2 h; exact Z.nix
  | succ n ih =>
    intro x2 h
    rw [f_X0_noteOddness_L16_s]
    refine z_iload_n rfl rfl ?_
    refine z_aload_n rfl rfl ?_
    refine z_getI rfl fl_X0_34 rfl kd_19 ?_
    refine z_icmp_ge rfl ?_ ?_
    · exact z_return rfl rfl
    · refine z_iconst rfl rfl ?_
      refine z_istore_n rfl rfl ?_
      refine Z.weak ?_ (t_X0_noteOddness_L22 x1 k1 _  _  ?_  fu _ _)
      · exact wkL_c (wkL_c (wkL_c (wkL_c (wkL_n (wkL_nil _)))))
      · intro h6
        refine z_iinc rfl rfl rfl ?_
        refine z_goto rfl ?_
        refine Z.weak ?_ (ih _ _)
        exact wkL_c (wkL_c (wkL_c (wkL_n (wkL_n (wkL_nil _)))))
set_option maxRecDepth 20000 in
set_option maxHeartbeats 1000000 in
theorem t_X0_noteOddness (x1 : Nat) (k1 : kd x1 = (1, 0)) (h : Hp) : Ct M_X0_noteOddness [vr 19, vr x1] h (f_X0_noteOddness x1 h) := by
  refine Ct.mk ok_X0_noteOddness pl_X0_noteOddness rfl rfl ?_
  show Z M_X0_noteOddness 0 [some (vr 19), some (vr x1), none, none, none] [] h (f_X0_noteOddness x1 h)
  unfold f_X0_noteOddness
  refine z_iconst rfl rfl ?_
  refine z_istore_n rfl rfl ?_
  refine Z.weak ?_ (t_X0_noteOddness_L2 x1 k1  _  ?_  fu _ _)
  · exact wkL_c (wkL_c (wkL_c (wkL_n (wkL_n (wkL_nil _)))))
  · intro h2
    refine z_iconst rfl rfl ?_
    refine z_istore_n rfl rfl ?_
    refine Z.weak ?_ (t_X0_noteOddness_L16 x1 k1     fu _ _)
    · exact wkL_c (wkL_c (wkL_c (wkL_n (wkL_n (wkL_nil _)))))
set_option maxRecDepth 20000 in
set_option maxHeartbeats 1000000 in
theorem t_X4_numberAt (x0 : Nat) (n0 : Nat) (k0 : kd x0 = (10, n0) ∨ kd x0 = (30, n0)) (x1 : Int) (h : Hp) : Ct M_X4_numberAt [vr x0, vi x1] h (f_X4_numberAt x0 n0 x1 h) := by
  refine Ct.mk ok_X4_numberAt pl_X4_numberAt rfl rfl ?_
  show Z M_X4_numberAt 0 [some (vr x0), some (vi x1)] [] h (f_X4_numberAt x0 n0 x1 h)
  unfold f_X4_numberAt
  refine z_iload_n rfl rfl ?_
  refine z_if_lt rfl ?_ ?_
  · refine z_iconst rfl rfl ?_
    exact z_ireturn rfl rfl
  · refine z_iload_n rfl rfl ?_
    refine z_aload_n rfl rfl ?_
    refine z_alenX k0 rfl ?_
    refine z_icmp_ge rfl ?_ ?_
    · refine z_iconst rfl rfl ?_
      exact z_ireturn rfl rfl
    · refine z_aload_n rfl rfl ?_
      refine z_iload_n rfl rfl ?_
      refine z_ialoadX k0 rfl ?_
      refine z_goto rfl ?_
      exact z_ireturn rfl rfl
set_option maxRecDepth 20000 in
set_option maxHeartbeats 1000000 in
theorem t_X1_setting (x0 : Nat) (k0 : kd x0 = (1, 0)) (x1 : Int) (h : Hp) : Ct M_X1_setting [vr x0, vi x1] h (f_X1_setting x0 x1 h) := by
  refine Ct.mk ok_X1_setting pl_X1_setting rfl rfl ?_
  show Z M_X1_setting 0 [some (vr x0), some (vi x1)] [] h (f_X1_setting x0 x1 h)
  unfold f_X1_setting
  refine z_iload_n rfl rfl ?_
  refine z_if_lt rfl ?_ ?_
  · refine z_iconst rfl rfl ?_
    exact z_ireturn rfl rfl
  · refine z_iload_n rfl rfl ?_
    refine z_aload_n rfl rfl ?_
    refine z_getR rfl fl_X1_24 rfl k0 ?_
    refine z_alen (c := 0) rfl (kO_7 k0) (by omega) ?_
    refine z_icmp_ge rfl ?_ ?_
    · refine z_iconst rfl rfl ?_
      exact z_ireturn rfl rfl
    · refine z_aload_n rfl rfl ?_
      refine z_getR rfl fl_X1_24 rfl k0 ?_
      refine z_iload_n rfl rfl ?_
      refine z_iaload rfl (kO_7 k0) ?_
      refine z_goto rfl ?_
      exact z_ireturn rfl rfl
set_option maxRecDepth 20000 in
set_option maxHeartbeats 1000000 in
theorem t_X0_weigh_L6 (x3 : Nat) (k3 : kd x3 = (1, 0)) (x1 : Int) (x2 : Int) (c40 : Int → Int → Hp → Option (Int × Hp)) (hc40 : ∀ (y4 : Int) (y5 : Int) (h : Hp), Z M_X0_weigh 40 [some (vr 19), some (vi x1), some (vi x2), some (vr x3), some (vi y4), some (vi y5), none, none] [] h (c40 y4 y5 h)) : ∀ (n : Nat) (x4 : Int) (x5 : Int) (x6 : Int) (h : Hp), Z M_X0_weigh 6 [some (vr 19), some (vi x1), some (vi x2), some (vr x3), some (vi x4), some (vi x5), some (vi x6), none] [] h (f_X0_weigh_L6 x3 x1 x2 c40 n x4 x5 x6 h) := by
  intro n
  induction n with
  | zero => intro x4 x5 x6 h; exact Z.nix
  | succ n ih =>
    intro x4 x5 x6 h
    rw [f_X0_weigh_L6_s]
    refine z_iload rfl rfl ?_
    refine z_iconst rfl rfl ?_
    refine z_icmp_ge rfl ?_ ?_
    · refine Z.weak ?_ (hc40 _ _ _)
      exact wkL_c (wkL_c (wkL_c (wkL_c (wkL_c (wkL_c (wkL_n (wkL_n (wkL_nil _))))))))
    · refine z_aload_n rfl rfl ?_
      refine z_getR rfl fl_X0_60 rfl k3 ?_
      refine z_iload_n rfl rfl ?_
      refine z_iload rfl rfl ?_
      refine z_V2i ko2 mv_X0_70 (kO_3 k3) (t_X2_cell (x3 + 3) (kO_3 k3) _ _ _) rfl rfl rfl rfl rfl (fun r1 h1 => ?_)
      refine z_istore rfl rfl ?_
      refine z_iload rfl rfl ?_
      refine z_aload_n rfl rfl ?_
      refine z_getR rfl fl_X0_44 rfl k3 ?_
      refine z_iload_n rfl rfl ?_
      refine z_iload rfl rfl ?_
      refine z_V2i ko2 mv_X0_70 (kO_1 k3) (t_X2_cell (x3 + 1) (kO_1 k3) _ _ _) rfl rfl rfl rfl rfl (fun r2 h2 => ?_)
      refine z_icmp_ne rfl ?_ ?_
      · refine z_iload rfl rfl ?_
        refine z_iconst rfl rfl ?_
        refine z_icmp_eq rfl ?_ ?_
        · refine z_iinc rfl rfl rfl ?_
          refine z_goto rfl ?_
          refine Z.weak ?_ (ih _ _ _ _)
          exact wkL_c (wkL_c (wkL_c (wkL_c (wkL_c (wkL_c (wkL_c (wkL_n (wkL_nil _))))))))
        · refine z_iinc rfl rfl rfl ?_
          refine z_iinc rfl rfl rfl ?_
          refine z_goto rfl ?_
          refine Z.weak ?_ (ih _ _ _ _)
          exact wkL_c (wkL_c (wkL_c (wkL_c (wkL_c (wkL_c (wkL_c (wkL_n (wkL_nil _))))))))
      · refine z_iload rfl rfl ?_
        refine z_aload_n rfl rfl ?_
        refine z_getRn (m := 24) rfl fl_X0_25 rfl kd_19 rfl ?_
        refine z_iload rfl rfl ?_
        refine z_bipush rfl rfl ?_
        refine z_imul rfl ?_
        refine z_iload rfl rfl ?_
        refine z_iadd rfl ?_
        refine z_N2i mn_X0_73 (t_X4_numberAt 24 40 (Or.inl kd_24) _ _) rfl rfl rfl rfl (fun r3 h3 => ?_)
        refine z_iadd rfl ?_
        refine z_istoreL rfl rfl (fun y4 => ?_)
        refine z_goto rfl ?_
        refine z_iinc rfl rfl rfl ?_
        refine z_goto rfl ?_
        refine Z.weak ?_ (ih _ _ _ _)
        exact wkL_c (wkL_c (wkL_c (wkL_c (wkL_c (wkL_c (wkL_c (wkL_n (wkL_nil _))))))))
set_option maxRecDepth 20000 in
set_option maxHeartbeats 1000000 in
theorem t_X0_weigh (x1 : Int) (x2 : Int) (x3 : Nat) (k3 : kd x3 = (1, 0)) (h : Hp) : Ct M_X0_weigh [vr 19, vi x1, vi x2, vr x3] h (f_X0_weigh x1 x2 x3 h) := by
  refine Ct.mk ok_X0_weigh pl_X0_weigh rfl rfl ?_
  show Z M_X0_weigh 0 [some (vr 19), some (vi x1), some (vi x2), some (vr x3), none, none, none, none] [] h (f_X0_weigh x1 x2 x3 h)
  unfold f_X0_weigh
  refine z_iconst rfl rfl ?_
  refine z_istore rfl rfl ?_
  refine z_iconst rfl rfl ?_
  refine z_istore rfl rfl ?_
  refine z_iconst rfl rfl ?_
  refine z_istore rfl rfl ?_
  refine Z.weak ?_ (t_X0_weigh_L6 x3 k3 _ _  _  ?_  fu _ _ _ _)
  · exact wkL_c (wkL_c (wkL_c (wkL_c (wkL_c (wkL_c (wkL_c (wkL_n (wkL_nil _))))))))
  · intro y5 y6 h7
    refine z_iload rfl rfl ?_
    refine z_iload rfl rfl ?_
    refine z_aload_n rfl rfl ?_
    refine z_iconst rfl rfl ?_
    refine z_V1i ko1 mv_X0_77 k3 (t_X1_setting x3 k3 _ _) rfl rfl rfl rfl rfl (fun r8 h8 => ?_)
    refine z_imul rfl ?_
    refine z_isub rfl ?_
    refine z_aload_n rfl rfl ?_
    refine z_getR rfl fl_X0_60 rfl k3 ?_
    refine z_iload_n rfl rfl ?_
    refine z_iconst rfl rfl ?_
    refine z_V2i ko2 mv_X0_70 (kO_3 k3) (t_X2_cell (x3 + 3) (kO_3 k3) _ _ _) rfl rfl rfl rfl rfl (fun r9 h9 => ?_)
    refine z_aload_n rfl rfl ?_
    refine z_iconst rfl rfl ?_
    refine z_V1i ko1 mv_X0_77 k3 (t_X1_setting x3 k3 _ _) rfl rfl rfl rfl rfl (fun r10 h10 => ?_)
    refine z_imul rfl ?_
    refine z_isub rfl ?_
    refine z_istoreL rfl rfl (fun y11 => ?_)
    refine z_aload_n rfl rfl ?_
    refine z_iload_n rfl rfl ?_
    refine z_iload_n rfl rfl ?_
    refine z_V2i ko0 mv_X0_81 kd_19 (t_X0_pairOf _ _ _) rfl rfl rfl rfl rfl (fun r12 h12 => ?_)
    refine z_istore rfl rfl ?_
    refine z_iload rfl rfl ?_
    refine z_if_lt rfl ?_ ?_
    · exact z_return rfl rfl
    · refine z_iload rfl rfl ?_
      refine z_sipush rfl rfl ?_
      refine z_icmp_ge rfl ?_ ?_
      · exact z_return rfl rfl
      · refine z_aload_n rfl rfl ?_
        refine z_getRn (m := 20) rfl fl_X0_9 rfl kd_19 rfl ?_
        refine z_iload rfl rfl ?_
        refine z_iload rfl rfl ?_
        refine z_iastoreL kd_20 rfl (fun h13 => ?_)
        refine z_aload_n rfl rfl ?_
        refine z_getRn (m := 21) rfl fl_X0_15 rfl kd_19 rfl ?_
        refine z_iload rfl rfl ?_
        refine z_iload rfl rfl ?_
        refine z_iastoreL kd_21 rfl (fun h14 => ?_)
        refine z_aload_n rfl rfl ?_
        refine z_getRn (m := 22) rfl fl_X0_18 rfl kd_19 rfl ?_
        refine z_iload rfl rfl ?_
        refine z_iload rfl rfl ?_
        refine z_aload_n rfl rfl ?_
        refine z_iconst rfl rfl ?_
        refine z_V1i ko1 mv_X0_77 k3 (t_X1_setting x3 k3 _ _) rfl rfl rfl rfl rfl (fun r15 h15 => ?_)
        refine z_icmp_gt rfl ?_ ?_
        · refine z_iconst rfl rfl ?_
          refine z_bastoreL kd_22 rfl (fun h16 => ?_)
          exact z_return rfl rfl
        · refine z_iload rfl rfl ?_
          refine z_aload_n rfl rfl ?_
          refine z_iconst rfl rfl ?_
          refine z_V1i ko1 mv_X0_77 k3 (t_X1_setting x3 k3 _ _) rfl rfl rfl rfl rfl (fun r17 h17 => ?_)
          refine z_icmp_lt rfl ?_ ?_
          · refine z_iconst rfl rfl ?_
            refine z_bastoreL kd_22 rfl (fun h18 => ?_)
            exact z_return rfl rfl
          · refine z_iconst rfl rfl ?_
            refine z_goto rfl ?_
            refine z_bastoreL kd_22 rfl (fun h19 => ?_)
            exact z_return rfl rfl
set_option maxRecDepth 20000 in
set_option maxHeartbeats 1000000 in
theorem t_X0_weighAll_L25 (x1 : Nat) (k1 : kd x1 = (1, 0)) (x2 : Int) (c36 : Hp → Option (Int × Hp)) (hc36 : ∀ (h : Hp), Z M_X0_weighAll 36 [some (vr 19), some (vr x1), some (vi x2), none] [] h (c36  h)) : ∀ (n : Nat) (x3 : Int) (h : Hp), Z M_X0_weighAll 25 [some (vr 19), some (vr x1), some (vi x2), some (vi x3)] [] h (f_X0_weighAll_L25 x1 x2 c36 n x3 h) := by
  intro n
  induction n with
  | zero => intro x3 h; exact Z.nix
  | succ n ih =>
    intro x3 h
    rw [f_X0_weighAll_L25_s]
    refine z_iload_n rfl rfl ?_
    refine z_aload_n rfl rfl ?_
    refine z_getI rfl fl_X0_38 rfl kd_19 ?_
    refine z_icmp_ge rfl ?_ ?_
    · refine Z.weak ?_ (hc36 _)
      exact wkL_c (wkL_c (wkL_c (wkL_n (wkL_nil _))))
    · refine z_aload_n rfl rfl ?_
      refine z_iload_n rfl rfl ?_
      refine z_iload_n rfl rfl ?_
      refine z_aload_n rfl rfl ?_
      refine z_V3v ko0 mv_X0_66 kd_19 (t_X0_weigh _ _ x1 k1 _) rfl rfl rfl rfl rfl (fun _ h6 => ?_)
      refine z_iinc rfl rfl rfl ?_
      refine z_goto rfl ?_
      refine Z.weak ?_ (ih _ _)
      exact wkL_c (wkL_c (wkL_c (wkL_c (wkL_nil _))))
set_option maxRecDepth 20000 in
set_option maxHeartbeats 1000000 in
theorem t_X0_weighAll_L19 (x1 : Nat) (k1 : kd x1 = (1, 0)) : ∀ (n : Nat) (x2 : Int) (h : Hp), Z M_X0_weighAll 19 [some (vr 19), some (vr x1), some (vi x2), none] [] h (f_X0_weighAll_L19 x1 n x2 h) := by
  intro n
  induction n with
  | zero => intro x2 h; exact Z.nix
  | succ n ih =>
    intro x2 h
    rw [f_X0_weighAll_L19_s]
    refine z_iload_n rfl rfl ?_
    refine z_aload_n rfl rfl ?_
    refine z_getI rfl fl_X0_34 rfl kd_19 ?_
    refine z_icmp_ge rfl ?_ ?_
    · exact z_return rfl rfl
    · refine z_iconst rfl rfl ?_
      refine z_istore_n rfl rfl ?_
      refine Z.weak ?_ (t_X0_weighAll_L25 x1 k1 _  _  ?_  fu _ _)
      · exact wkL_c (wkL_c (wkL_c (wkL_c (wkL_nil _))))
      · intro h7
        refine z_iinc rfl rfl rfl ?_
        refine z_goto rfl ?_
        refine Z.weak ?_ (ih _ _)
        exact wkL_c (wkL_c (wkL_c (wkL_n (wkL_nil _))))
set_option maxRecDepth 20000 in
set_option maxHeartbeats 1000000 in
theorem t_X0_weighAll (x1 : Nat) (k1 : kd x1 = (1, 0)) (h : Hp) : Ct M_X0_weighAll [vr 19, vr x1] h (f_X0_weighAll x1 h) := by
  refine Ct.mk ok_X0_weighAll pl_X0_weighAll rfl rfl ?_
  show Z M_X0_weighAll 0 [some (vr 19), some (vr x1), none, none] [] h (f_X0_weighAll x1 h)
  unfold f_X0_weighAll
  refine z_aload_n rfl rfl ?_
  refine z_aload_n rfl rfl ?_
  refine z_getR rfl fl_X0_44 rfl k1 ?_
  refine z_getI rfl fl_X0_49 rfl (kO_1 k1) ?_
  refine z_bipush rfl rfl ?_
  refine z_S2i ms_X0_54 (t_J_min _ _ _) rfl rfl rfl rfl (fun r1 h1 => ?_)
  refine z_putL fi_X0_34 rfl kd_19 rfl (fun h2 => ?_)
  refine z_aload_n rfl rfl ?_
  refine z_aload_n rfl rfl ?_
  refine z_getR rfl fl_X0_60 rfl k1 ?_
  refine z_getI rfl fl_X0_49 rfl (kO_3 k1) ?_
  refine z_bipush rfl rfl ?_
  refine z_S2i ms_X0_54 (t_J_min _ _ _) rfl rfl rfl rfl (fun r3 h3 => ?_)
  refine z_putL fi_X0_38 rfl kd_19 rfl (fun h4 => ?_)
  refine z_aload_n rfl rfl ?_
  refine z_aload_n rfl rfl ?_
  refine z_V1v ko0 mv_X0_62 kd_19 (t_X0_noteOddness x1 k1 _) rfl rfl rfl rfl rfl (fun _ h5 => ?_)
  refine z_iconst rfl rfl ?_
  refine z_istore_n rfl rfl ?_
  refine Z.weak ?_ (t_X0_weighAll_L19 x1 k1     fu _ _)
  · exact wkL_c (wkL_c (wkL_c (wkL_n (wkL_nil _))))
set_option maxRecDepth 20000 in
set_option maxHeartbeats 1000000 in
theorem t_X0_matchAll_L7 (x1 : Nat) (k1 : kd x1 = (1, 0)) : ∀ (n : Nat) (x2 : Int) (h : Hp), Z M_X0_matchAll 7 [some (vr 19), none, some (vi x2), none] [] h (f_X0_matchAll_L7 x1 n x2 h) := by
  intro n
  induction n with
  | zero => intro x2 h; exact Z.nix
  | succ n ih =>
    intro x2 h
    rw [f_X0_matchAll_L7_s]
    refine z_iload_n rfl rfl ?_
    refine z_bipush rfl rfl ?_
    refine z_icmp_ge rfl ?_ ?_
    · exact z_return rfl rfl
    · refine z_aload_n rfl rfl ?_
      refine z_V0i ko0 mv_X0_94 kd_19 (t_X0_bestFreePair  _) rfl rfl rfl rfl rfl (fun r3 h3 => ?_)
      refine z_istore_n rfl rfl ?_
      refine z_iload_n rfl rfl ?_
      refine z_iconst rfl rfl ?_
      refine z_icmp_ne rfl ?_ ?_
      · refine z_aload_n rfl rfl ?_
        refine z_iload_n rfl rfl ?_
        refine z_bipush rfl rfl ?_
        refine z_idiv rfl rfl ?_
        refine z_iload_n rfl rfl ?_
        refine z_bipush rfl rfl ?_
        refine z_irem rfl rfl ?_
        refine z_V2v ko0 mv_X0_98 kd_19 (t_X0_join _ _ _) rfl rfl rfl rfl rfl (fun _ h4 => ?_)
        refine z_iinc rfl rfl rfl ?_
        refine z_goto rfl ?_
        refine Z.weak ?_ (ih _ _)
        exact wkL_c (wkL_n (wkL_c (wkL_n (wkL_nil _))))
      · exact z_return rfl rfl
set_option maxRecDepth 20000 in
set_option maxHeartbeats 1000000 in
theorem t_X0_matchAll (x1 : Nat) (k1 : kd x1 = (1, 0)) (h : Hp) : Ct M_X0_matchAll [vr 19, vr x1] h (f_X0_matchAll x1 h) := by
  refine Ct.mk ok_X0_matchAll pl_X0_matchAll rfl rfl ?_
  show Z M_X0_matchAll 0 [some (vr 19), some (vr x1), none, none] [] h (f_X0_matchAll x1 h)
  unfold f_X0_matchAll
  refine z_aload_n rfl rfl ?_
  refine z_aload_n rfl rfl ?_
  refine z_V1v ko0 mv_X0_88 kd_19 (t_X0_weighAll x1 k1 _) rfl rfl rfl rfl rfl (fun _ h1 => ?_)
  refine z_aload_n rfl rfl ?_
  refine z_V0v ko0 mv_X0_91 kd_19 (t_X0_matchNone  _) rfl rfl rfl rfl rfl (fun _ h2 => ?_)
  refine z_iconst rfl rfl ?_
  refine z_istore_n rfl rfl ?_
  refine Z.weak ?_ (t_X0_matchAll_L7 x1 k1     fu _ _)
  · exact wkL_c (wkL_n (wkL_c (wkL_n (wkL_nil _))))
set_option maxRecDepth 20000 in
set_option maxHeartbeats 1000000 in
theorem t_X0_nextPairOf_L4 (x1 : Int) : ∀ (n : Nat) (x2 : Int) (x3 : Int) (h : Hp), Z M_X0_nextPairOf 4 [some (vr 19), some (vi x1), some (vi x2), some (vi x3), none] [] h (f_X0_nextPairOf_L4 x1 n x2 x3 h) := by
  intro n
  induction n with
  | zero => intro x2 x3 h; exact Z.nix
  | succ n ih =>
    intro x2 x3 h
    rw [f_X0_nextPairOf_L4_s]
    refine z_iload_n rfl rfl ?_
    refine z_aload_n rfl rfl ?_
    refine z_getI rfl fl_X0_34 rfl kd_19 ?_
    refine z_icmp_ge rfl ?_ ?_
    · refine z_iload_n rfl rfl ?_
      exact z_ireturn rfl rfl
    · refine z_aload_n rfl rfl ?_
      refine z_iload_n rfl rfl ?_
      refine z_iload_n rfl rfl ?_
      refine z_V2i ko0 mv_X0_81 kd_19 (t_X0_pairOf _ _ _) rfl rfl rfl rfl rfl (fun r1 h1 => ?_)
      refine z_istore rfl rfl ?_
      refine z_iload rfl rfl ?_
      refine z_if_lt rfl ?_ ?_
      · refine z_iinc rfl rfl rfl ?_
        refine z_goto rfl ?_
        refine Z.weak ?_ (ih _ _ _)
        exact wkL_c (wkL_c (wkL_c (wkL_c (wkL_n (wkL_nil _)))))
      · refine z_iload rfl rfl ?_
        refine z_sipush rfl rfl ?_
        refine z_icmp_ge rfl ?_ ?_
        · refine z_iinc rfl rfl rfl ?_
          refine z_goto rfl ?_
          refine Z.weak ?_ (ih _ _ _)
          exact wkL_c (wkL_c (wkL_c (wkL_c (wkL_n (wkL_nil _)))))
        · refine z_aload_n rfl rfl ?_
          refine z_getRn (m := 22) rfl fl_X0_18 rfl kd_19 rfl ?_
          refine z_iload rfl rfl ?_
          refine z_baload rfl kd_22 ?_
          refine z_if_eq rfl ?_ ?_
          · refine z_iinc rfl rfl rfl ?_
            refine z_goto rfl ?_
            refine Z.weak ?_ (ih _ _ _)
            exact wkL_c (wkL_c (wkL_c (wkL_c (wkL_n (wkL_nil _)))))
          · refine z_aload_n rfl rfl ?_
            refine z_getRn (m := 23) rfl fl_X0_22 rfl kd_19 rfl ?_
            refine z_iload rfl rfl ?_
            refine z_baload rfl kd_23 ?_
            refine z_if_ne rfl ?_ ?_
            · refine z_iinc rfl rfl rfl ?_
              refine z_goto rfl ?_
              refine Z.weak ?_ (ih _ _ _)
              exact wkL_c (wkL_c (wkL_c (wkL_c (wkL_n (wkL_nil _)))))
            · refine z_aload_n rfl rfl ?_
              refine z_iload rfl rfl ?_
              refine z_iload_n rfl rfl ?_
              refine z_V2i ko0 mv_X0_108 kd_19 (t_X0_aheadOf _ _ _) rfl rfl rfl rfl rfl (fun r2 h2 => ?_)
              refine z_istore_n rfl rfl ?_
              refine z_iinc rfl rfl rfl ?_
              refine z_goto rfl ?_
              refine Z.weak ?_ (ih _ _ _)
              exact wkL_c (wkL_c (wkL_c (wkL_c (wkL_n (wkL_nil _)))))
set_option maxRecDepth 20000 in
set_option maxHeartbeats 1000000 in
theorem t_X0_nextPairOf (x1 : Int) (h : Hp) : Ct M_X0_nextPairOf [vr 19, vi x1] h (f_X0_nextPairOf x1 h) := by
  refine Ct.mk ok_X0_nextPairOf pl_X0_nextPairOf rfl rfl ?_
  show Z M_X0_nextPairOf 0 [some (vr 19), some (vi x1), none, none, none] [] h (f_X0_nextPairOf x1 h)
  unfold f_X0_nextPairOf
  refine z_iconst rfl rfl ?_
  refine z_istore_n rfl rfl ?_
  refine z_iconst rfl rfl ?_
  refine z_istore_n rfl rfl ?_
  refine Z.weak ?_ (t_X0_nextPairOf_L4  _     fu _ _ _)
  · exact wkL_c (wkL_c (wkL_c (wkL_c (wkL_n (wkL_nil _)))))
set_option maxRecDepth 20000 in
set_option maxHeartbeats 1000000 in
theorem t_X0_nextAsk_L2  : ∀ (n : Nat) (x1 : Int) (h : Hp), Z M_X0_nextAsk 2 [some (vr 19), some (vi x1), none] [] h (f_X0_nextAsk_L2  n x1 h) := by
  intro n
  induction n with
  | zero => intro x1 h; exact Z.nix
  | succ n ih =>
    intro x1 h
    rw [f_X0_nextAsk_L2_s]
    refine z_iload_n rfl rfl ?_
    refine z_aload_n rfl rfl ?_
    refine z_getI rfl fl_X0_38 rfl kd_19 ?_
    refine z_icmp_ge rfl ?_ ?_
    · refine z_iconst rfl rfl ?_
      exact z_ireturn rfl rfl
    · refine z_aload_n rfl rfl ?_
      refine z_iload_n rfl rfl ?_
      refine z_V1i ko0 mv_X0_105 kd_19 (t_X0_umbrellaMatched _ _) rfl rfl rfl rfl rfl (fun r1 h1 => ?_)
      refine z_iconst rfl rfl ?_
      refine z_icmp_ne rfl ?_ ?_
      · refine z_iinc rfl rfl rfl ?_
        refine z_goto rfl ?_
        refine Z.weak ?_ (ih _ _)
        exact wkL_c (wkL_c (wkL_n (wkL_nil _)))
      · refine z_aload_n rfl rfl ?_
        refine z_iload_n rfl rfl ?_
        refine z_V1i ko0 mv_X0_121 kd_19 (t_X0_nextPairOf _ _) rfl rfl rfl rfl rfl (fun r2 h2 => ?_)
        refine z_istore_n rfl rfl ?_
        refine z_iload_n rfl rfl ?_
        refine z_iconst rfl rfl ?_
        refine z_icmp_eq rfl ?_ ?_
        · refine z_iinc rfl rfl rfl ?_
          refine z_goto rfl ?_
          refine Z.weak ?_ (ih _ _)
          exact wkL_c (wkL_c (wkL_n (wkL_nil _)))
        · refine z_iload_n rfl rfl ?_
          exact z_ireturn rfl rfl
set_option maxRecDepth 20000 in
set_option maxHeartbeats 1000000 in
theorem t_X0_nextAsk  (h : Hp) : Ct M_X0_nextAsk [vr 19] h (f_X0_nextAsk  h) := by
  refine Ct.mk ok_X0_nextAsk pl_X0_nextAsk rfl rfl ?_
  show Z M_X0_nextAsk 0 [some (vr 19), none, none] [] h (f_X0_nextAsk  h)
  unfold f_X0_nextAsk
  refine z_iconst rfl rfl ?_
  refine z_istore_n rfl rfl ?_
  refine Z.weak ?_ (t_X0_nextAsk_L2      fu _ _)
  · exact wkL_c (wkL_c (wkL_n (wkL_nil _)))
set_option maxRecDepth 20000 in
set_option maxHeartbeats 1000000 in
theorem t_X0_matchByAsking_L7 (x1 : Nat) (k1 : kd x1 = (1, 0)) (c19 : Hp → Option (Int × Hp)) (hc19 : ∀ (h : Hp), Z M_X0_matchByAsking 19 [some (vr 19), none, none, none] [] h (c19  h)) : ∀ (n : Nat) (x2 : Int) (h : Hp), Z M_X0_matchByAsking 7 [some (vr 19), none, some (vi x2), none] [] h (f_X0_matchByAsking_L7 x1 c19 n x2 h) := by
  intro n
  induction n with
  | zero => intro x2 h; exact Z.nix
  | succ n ih =>
    intro x2 h
    rw [f_X0_matchByAsking_L7_s]
    refine z_iload_n rfl rfl ?_
    refine z_aload_n rfl rfl ?_
    refine z_getRn (m := 23) rfl fl_X0_22 rfl kd_19 rfl ?_
    refine z_alen (c := 1) rfl kd_23 (by omega) ?_
    refine z_icmp_ge rfl ?_ ?_
    · refine Z.weak ?_ (hc19 _)
      exact wkL_c (wkL_n (wkL_n (wkL_n (wkL_nil _))))
    · refine z_aload_n rfl rfl ?_
      refine z_getRn (m := 23) rfl fl_X0_22 rfl kd_19 rfl ?_
      refine z_iload_n rfl rfl ?_
      refine z_iconst rfl rfl ?_
      refine z_bastoreL kd_23 rfl (fun h3 => ?_)
      refine z_iinc rfl rfl rfl ?_
      refine z_goto rfl ?_
      refine Z.weak ?_ (ih _ _)
      exact wkL_c (wkL_n (wkL_c (wkL_n (wkL_nil _))))
set_option maxRecDepth 20000 in
set_option maxHeartbeats 1000000 in
theorem t_X0_matchByAsking_L21 (x1 : Nat) (k1 : kd x1 = (1, 0)) : ∀ (n : Nat) (x2 : Int) (h : Hp), Z M_X0_matchByAsking 21 [some (vr 19), none, some (vi x2), none] [] h (f_X0_matchByAsking_L21 x1 n x2 h) := by
  intro n
  induction n with
  | zero => intro x2 h; exact Z.nix
  | succ n ih =>
    intro x2 h
    rw [f_X0_matchByAsking_L21_s]
    refine z_iload_n rfl rfl ?_
    refine z_sipush rfl rfl ?_
    refine z_icmp_ge rfl ?_ ?_
    · exact z_return rfl rfl
    · refine z_aload_n rfl rfl ?_
      refine z_V0i ko0 mv_X0_114 kd_19 (t_X0_nextAsk  _) rfl rfl rfl rfl rfl (fun r5 h5 => ?_)
      refine z_istore_n rfl rfl ?_
      refine z_iload_n rfl rfl ?_
      refine z_iconst rfl rfl ?_
      refine z_icmp_ne rfl ?_ ?_
      · refine z_aload_n rfl rfl ?_
        refine z_iload_n rfl rfl ?_
        refine z_V1v ko0 mv_X0_117 kd_19 (t_X0_askFor _ _) rfl rfl rfl rfl rfl (fun _ h6 => ?_)
        refine z_iinc rfl rfl rfl ?_
        refine z_goto rfl ?_
        refine Z.weak ?_ (ih _ _)
        exact wkL_c (wkL_n (wkL_c (wkL_n (wkL_nil _))))
      · exact z_return rfl rfl
set_option maxRecDepth 20000 in
set_option maxHeartbeats 1000000 in
theorem t_X0_matchByAsking (x1 : Nat) (k1 : kd x1 = (1, 0)) (h : Hp) : Ct M_X0_matchByAsking [vr 19, vr x1] h (f_X0_matchByAsking x1 h) := by
  refine Ct.mk ok_X0_matchByAsking pl_X0_matchByAsking rfl rfl ?_
  show Z M_X0_matchByAsking 0 [some (vr 19), some (vr x1), none, none] [] h (f_X0_matchByAsking x1 h)
  unfold f_X0_matchByAsking
  refine z_aload_n rfl rfl ?_
  refine z_aload_n rfl rfl ?_
  refine z_V1v ko0 mv_X0_88 kd_19 (t_X0_weighAll x1 k1 _) rfl rfl rfl rfl rfl (fun _ h1 => ?_)
  refine z_aload_n rfl rfl ?_
  refine z_V0v ko0 mv_X0_91 kd_19 (t_X0_matchNone  _) rfl rfl rfl rfl rfl (fun _ h2 => ?_)
  refine z_iconst rfl rfl ?_
  refine z_istore_n rfl rfl ?_
  refine Z.weak ?_ (t_X0_matchByAsking_L7 x1 k1  _  ?_  fu _ _)
  · exact wkL_c (wkL_n (wkL_c (wkL_n (wkL_nil _))))
  · intro h4
    refine z_iconst rfl rfl ?_
    refine z_istore_n rfl rfl ?_
    refine Z.weak ?_ (t_X0_matchByAsking_L21 x1 k1     fu _ _)
    · exact wkL_c (wkL_n (wkL_c (wkL_n (wkL_nil _))))
set_option maxRecDepth 20000 in
set_option maxHeartbeats 1000000 in
theorem t_X0_reasonAgainst (x1 : Int) (x2 : Int) (x3 : Nat) (k3 : kd x3 = (1, 0)) (h : Hp) : Ct M_X0_reasonAgainst [vr 19, vi x1, vi x2, vr x3] h (f_X0_reasonAgainst x1 x2 x3 h) := by
  refine Ct.mk ok_X0_reasonAgainst pl_X0_reasonAgainst rfl rfl ?_
  show Z M_X0_reasonAgainst 0 [some (vr 19), some (vi x1), some (vi x2), some (vr x3), none, none] [] h (f_X0_reasonAgainst x1 x2 x3 h)
  unfold f_X0_reasonAgainst
  refine z_aload_n rfl rfl ?_
  refine z_iload_n rfl rfl ?_
  refine z_iload_n rfl rfl ?_
  refine z_V2i ko0 mv_X0_81 kd_19 (t_X0_pairOf _ _ _) rfl rfl rfl rfl rfl (fun r1 h1 => ?_)
  refine z_istore rfl rfl ?_
  refine z_aload_n rfl rfl ?_
  refine z_iload_n rfl rfl ?_
  refine z_V1i ko0 mv_X0_102 kd_19 (t_X0_claimMatched _ _) rfl rfl rfl rfl rfl (fun r2 h2 => ?_)
  refine z_istore rfl rfl ?_
  refine z_iload rfl rfl ?_
  refine z_if_lt rfl ?_ ?_
  · refine z_iconst rfl rfl ?_
    exact z_ireturn rfl rfl
  · refine z_iload rfl rfl ?_
    refine z_sipush rfl rfl ?_
    refine z_icmp_ge rfl ?_ ?_
    · refine z_iconst rfl rfl ?_
      exact z_ireturn rfl rfl
    · refine z_iload rfl rfl ?_
      refine z_iload_n rfl rfl ?_
      refine z_icmp_ne rfl ?_ ?_
      · refine z_aload_n rfl rfl ?_
        refine z_getRn (m := 20) rfl fl_X0_9 rfl kd_19 rfl ?_
        refine z_iload rfl rfl ?_
        refine z_iaload rfl kd_20 ?_
        refine z_aload_n rfl rfl ?_
        refine z_iconst rfl rfl ?_
        refine z_V1i ko1 mv_X0_77 k3 (t_X1_setting x3 k3 _ _) rfl rfl rfl rfl rfl (fun r3 h3 => ?_)
        refine z_icmp_le rfl ?_ ?_
        · refine z_aload_n rfl rfl ?_
          refine z_getRn (m := 22) rfl fl_X0_18 rfl kd_19 rfl ?_
          refine z_iload rfl rfl ?_
          refine z_baload rfl kd_22 ?_
          refine z_if_ne rfl ?_ ?_
          · refine z_aload_n rfl rfl ?_
            refine z_aload_n rfl rfl ?_
            refine z_iload_n rfl rfl ?_
            refine z_iload rfl rfl ?_
            refine z_V2i ko0 mv_X0_81 kd_19 (t_X0_pairOf _ _ _) rfl rfl rfl rfl rfl (fun r4 h4 => ?_)
            refine z_iload rfl rfl ?_
            refine z_V2i ko0 mv_X0_108 kd_19 (t_X0_aheadOf _ _ _) rfl rfl rfl rfl rfl (fun r5 h5 => ?_)
            refine z_iload rfl rfl ?_
            refine z_icmp_ne rfl ?_ ?_
            · refine z_iconst rfl rfl ?_
              exact z_ireturn rfl rfl
            · refine z_iconst rfl rfl ?_
              refine z_goto rfl ?_
              exact z_ireturn rfl rfl
          · refine z_iconst rfl rfl ?_
            exact z_ireturn rfl rfl
        · refine z_iconst rfl rfl ?_
          exact z_ireturn rfl rfl
      · refine z_iconst rfl rfl ?_
        exact z_ireturn rfl rfl
set_option maxRecDepth 20000 in
set_option maxHeartbeats 1000000 in
theorem t_X0_umbrellasSuiting_L4 (x1 : Int) : ∀ (n : Nat) (x2 : Int) (x3 : Int) (h : Hp), Z M_X0_umbrellasSuiting 4 [some (vr 19), some (vi x1), some (vi x2), some (vi x3)] [] h (f_X0_umbrellasSuiting_L4 x1 n x2 x3 h) := by
  intro n
  induction n with
  | zero => intro x2 x3 h; exact Z.nix
  | succ n ih =>
    intro x2 x3 h
    rw [f_X0_umbrellasSuiting_L4_s]
    refine z_iload_n rfl rfl ?_
    refine z_aload_n rfl rfl ?_
    refine z_getI rfl fl_X0_34 rfl kd_19 ?_
    refine z_icmp_ge rfl ?_ ?_
    · refine z_iload_n rfl rfl ?_
      exact z_ireturn rfl rfl
    · refine z_aload_n rfl rfl ?_
      refine z_iload_n rfl rfl ?_
      refine z_iload_n rfl rfl ?_
      refine z_V2i ko0 mv_X0_84 kd_19 (t_X0_suits _ _ _) rfl rfl rfl rfl rfl (fun r1 h1 => ?_)
      refine z_if_eq rfl ?_ ?_
      · refine z_iinc rfl rfl rfl ?_
        refine z_goto rfl ?_
        refine Z.weak ?_ (ih _ _ _)
        exact wkL_c (wkL_c (wkL_c (wkL_c (wkL_nil _))))
      · refine z_iinc rfl rfl rfl ?_
        refine z_iinc rfl rfl rfl ?_
        refine z_goto rfl ?_
        refine Z.weak ?_ (ih _ _ _)
        exact wkL_c (wkL_c (wkL_c (wkL_c (wkL_nil _))))
set_option maxRecDepth 20000 in
set_option maxHeartbeats 1000000 in
theorem t_X0_umbrellasSuiting (x1 : Int) (h : Hp) : Ct M_X0_umbrellasSuiting [vr 19, vi x1] h (f_X0_umbrellasSuiting x1 h) := by
  refine Ct.mk ok_X0_umbrellasSuiting pl_X0_umbrellasSuiting rfl rfl ?_
  show Z M_X0_umbrellasSuiting 0 [some (vr 19), some (vi x1), none, none] [] h (f_X0_umbrellasSuiting x1 h)
  unfold f_X0_umbrellasSuiting
  refine z_iconst rfl rfl ?_
  refine z_istore_n rfl rfl ?_
  refine z_iconst rfl rfl ?_
  refine z_istore_n rfl rfl ?_
  refine Z.weak ?_ (t_X0_umbrellasSuiting_L4  _     fu _ _ _)
  · exact wkL_c (wkL_c (wkL_c (wkL_c (wkL_nil _))))
set_option maxRecDepth 20000 in
set_option maxHeartbeats 1000000 in
theorem t_X0_worthOf (x1 : Int) (x2 : Int) (h : Hp) : Ct M_X0_worthOf [vr 19, vi x1, vi x2] h (f_X0_worthOf x1 x2 h) := by
  refine Ct.mk ok_X0_worthOf pl_X0_worthOf rfl rfl ?_
  show Z M_X0_worthOf 0 [some (vr 19), some (vi x1), some (vi x2)] [] h (f_X0_worthOf x1 x2 h)
  unfold f_X0_worthOf
  refine z_aload_n rfl rfl ?_
  refine z_getRn (m := 21) rfl fl_X0_15 rfl kd_19 rfl ?_
  refine z_aload_n rfl rfl ?_
  refine z_iload_n rfl rfl ?_
  refine z_iload_n rfl rfl ?_
  refine z_V2i ko0 mv_X0_81 kd_19 (t_X0_pairOf _ _ _) rfl rfl rfl rfl rfl (fun r1 h1 => ?_)
  refine z_N2i mn_X0_73 (t_X4_numberAt 21 144 (Or.inl kd_21) _ _) rfl rfl rfl rfl (fun r2 h2 => ?_)
  exact z_ireturn rfl rfl
set_option maxRecDepth 20000 in
set_option maxHeartbeats 1000000 in
theorem t_X0_worthOfMatched_L4  : ∀ (n : Nat) (x1 : Int) (x2 : Int) (h : Hp), Z M_X0_worthOfMatched 4 [some (vr 19), some (vi x1), some (vi x2), none] [] h (f_X0_worthOfMatched_L4  n x1 x2 h) := by
  intro n
  induction n with
  | zero => intro x1 x2 h; exact Z.nix
  | succ n ih =>
    intro x1 x2 h
    rw [f_X0_worthOfMatched_L4_s]
    refine z_iload_n rfl rfl ?_
    refine z_aload_n rfl rfl ?_
    refine z_getI rfl fl_X0_34 rfl kd_19 ?_
    refine z_icmp_ge rfl ?_ ?_
    · refine z_iload_n rfl rfl ?_
      exact z_ireturn rfl rfl
    · refine z_aload_n rfl rfl ?_
      refine z_iload_n rfl rfl ?_
      refine z_V1i ko0 mv_X0_102 kd_19 (t_X0_claimMatched _ _) rfl rfl rfl rfl rfl (fun r1 h1 => ?_)
      refine z_istore_n rfl rfl ?_
      refine z_iload_n rfl rfl ?_
      refine z_iconst rfl rfl ?_
      refine z_icmp_eq rfl ?_ ?_
      · refine z_iinc rfl rfl rfl ?_
        refine z_goto rfl ?_
        refine Z.weak ?_ (ih _ _ _)
        exact wkL_c (wkL_c (wkL_c (wkL_n (wkL_nil _))))
      · refine z_iload_n rfl rfl ?_
        refine z_aload_n rfl rfl ?_
        refine z_iload_n rfl rfl ?_
        refine z_iload_n rfl rfl ?_
        refine z_V2i ko0 mv_X0_111 kd_19 (t_X0_worthOf _ _ _) rfl rfl rfl rfl rfl (fun r2 h2 => ?_)
        refine z_iadd rfl ?_
        refine z_istore_nL rfl rfl (fun y3 => ?_)
        refine z_iinc rfl rfl rfl ?_
        refine z_goto rfl ?_
        refine Z.weak ?_ (ih _ _ _)
        exact wkL_c (wkL_c (wkL_c (wkL_n (wkL_nil _))))
set_option maxRecDepth 20000 in
set_option maxHeartbeats 1000000 in
theorem t_X0_worthOfMatched  (h : Hp) : Ct M_X0_worthOfMatched [vr 19] h (f_X0_worthOfMatched  h) := by
  refine Ct.mk ok_X0_worthOfMatched pl_X0_worthOfMatched rfl rfl ?_
  show Z M_X0_worthOfMatched 0 [some (vr 19), none, none, none] [] h (f_X0_worthOfMatched  h)
  unfold f_X0_worthOfMatched
  refine z_iconst rfl rfl ?_
  refine z_istore_n rfl rfl ?_
  refine z_iconst rfl rfl ?_
  refine z_istore_n rfl rfl ?_
  refine Z.weak ?_ (t_X0_worthOfMatched_L4      fu _ _ _)
  · exact wkL_c (wkL_c (wkL_c (wkL_n (wkL_nil _))))
set_option maxRecDepth 20000 in
set_option maxHeartbeats 1000000 in
theorem t_X1_addTo (x0 : Nat) (k0 : kd x0 = (1, 0)) (x1 : Int) (x2 : Int) (h : Hp) : Ct M_X1_addTo [vr x0, vi x1, vi x2] h (f_X1_addTo x0 x1 x2 h) := by
  refine Ct.mk ok_X1_addTo pl_X1_addTo rfl rfl ?_
  show Z M_X1_addTo 0 [some (vr x0), some (vi x1), some (vi x2)] [] h (f_X1_addTo x0 x1 x2 h)
  unfold f_X1_addTo
  refine z_iload_n rfl rfl ?_
  refine z_if_lt rfl ?_ ?_
  · exact z_return rfl rfl
  · refine z_iload_n rfl rfl ?_
    refine z_aload_n rfl rfl ?_
    refine z_getR rfl fl_X1_28 rfl k0 ?_
    refine z_alen (c := 0) rfl (kO_8 k0) (by omega) ?_
    refine z_icmp_ge rfl ?_ ?_
    · exact z_return rfl rfl
    · refine z_aload_n rfl rfl ?_
      refine z_getR rfl fl_X1_28 rfl k0 ?_
      refine z_iload_n rfl rfl ?_
      refine z_dup2 rfl rfl rfl ?_
      refine z_iaload rfl (kO_8 k0) ?_
      refine z_iload_n rfl rfl ?_
      refine z_iadd rfl ?_
      refine z_iastoreL (kO_8 k0) rfl (fun h1 => ?_)
      exact z_return rfl rfl
set_option maxRecDepth 20000 in
set_option maxHeartbeats 1000000 in
theorem t_X2_become (x0 : Nat) (k0 : kd x0 = (2, 0)) (x1 : Nat) (k1 : kd x1 = (2, 0)) (h : Hp) : Ct M_X2_become [vr x0, vr x1] h (f_X2_become x0 x1 h) := by
  refine Ct.mk ok_X2_become pl_X2_become rfl rfl ?_
  show Z M_X2_become 0 [some (vr x0), some (vr x1)] [] h (f_X2_become x0 x1 h)
  unfold f_X2_become
  refine z_aload_n rfl rfl ?_
  refine z_ifnull rfl ?_
  refine z_aload_n rfl rfl ?_
  refine z_getR rfl fl_X2_9 rfl k1 ?_
  refine z_iconst rfl rfl ?_
  refine z_aload_n rfl rfl ?_
  refine z_getR rfl fl_X2_9 rfl k0 ?_
  refine z_iconst rfl rfl ?_
  refine z_bipush rfl rfl ?_
  refine z_copy (n := 72) (kR_1 k1) (kR_1 k0) cp_X2_19 rfl rfl rfl (fun h1 => ?_)
  refine z_aload_n rfl rfl ?_
  refine z_aload_n rfl rfl ?_
  refine z_getI rfl fl_X2_15 rfl k1 ?_
  refine z_putL fi_X2_15 rfl k0 rfl (fun h2 => ?_)
  exact z_return rfl rfl
