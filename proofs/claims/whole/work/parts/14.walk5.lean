/-! printed by wip/gen/gen.py: the bytecode does what the functions say -/
set_option maxRecDepth 20000 in
set_option maxHeartbeats 1000000 in
theorem t_X5_claims (x1 : Int) (x2 : Int) (x3 : Int) (x4 : Int) (x5 : Int) (h : Hp) : Ct M_X5_claims [vr 76, vi x1, vi x2, vi x3, vi x4, vi x5] h (f_X5_claims x1 x2 x3 x4 x5 h) := by
  refine Ct.mk ok_X5_claims pl_X5_claims rfl rfl ?_
  show Z M_X5_claims 0 [some (vr 76), some (vi x1), some (vi x2), some (vi x3), some (vi x4), some (vi x5)] [] h (f_X5_claims x1 x2 x3 x4 x5 h)
  unfold f_X5_claims
  refine z_iconst rfl rfl ?_
  refine z_iload_n rfl rfl ?_
  refine z_iload_n rfl rfl ?_
  refine z_iload rfl rfl ?_
  refine z_iload rfl rfl ?_
  refine z_S5i ms_X5_93 (t_X5_areValues _ _ _ _ _ _) rfl rfl rfl rfl (fun r1 h1 => ?_)
  refine z_if_ne rfl ?_ ?_
  · refine z_iload_n rfl rfl ?_
    refine z_iload_n rfl rfl ?_
    refine z_iadd rfl ?_
    refine z_iload rfl rfl ?_
    refine z_iadd rfl ?_
    refine z_iload rfl rfl ?_
    refine z_iadd rfl ?_
    refine z_bipush rfl rfl ?_
    refine z_icmp_ne rfl ?_ ?_
    · refine z_aload_n rfl rfl ?_
      refine z_getRn (m := 77) rfl fl_X5_7 rfl kd_76 rfl ?_
      refine z_iload_n rfl rfl ?_
      refine z_bipush rfl rfl ?_
      refine z_iadd rfl ?_
      refine z_iaload rfl kd_77 ?_
      refine z_bipush rfl rfl ?_
      refine z_icmp_ne rfl ?_ ?_
      · refine z_aload_n rfl rfl ?_
        refine z_iload_n rfl rfl ?_
        refine z_aload_n rfl rfl ?_
        refine z_getRn (m := 77) rfl fl_X5_7 rfl kd_76 rfl ?_
        refine z_iload_n rfl rfl ?_
        refine z_bipush rfl rfl ?_
        refine z_iadd rfl ?_
        refine z_iaload rfl kd_77 ?_
        refine z_S2i ms_X5_43 (t_X5_claimAt _ _ _) rfl rfl rfl rfl (fun r2 h2 => ?_)
        refine z_iload_n rfl rfl ?_
        refine z_iload_n rfl rfl ?_
        refine z_iload rfl rfl ?_
        refine z_iload rfl rfl ?_
        refine z_V5v ko5 mv_X5_99 kd_76 (t_X5_lays _ _ _ _ _ _) rfl rfl rfl rfl rfl (fun _ h3 => ?_)
        refine z_aload_n rfl rfl ?_
        refine z_getRn (m := 77) rfl fl_X5_7 rfl kd_76 rfl ?_
        refine z_iload_n rfl rfl ?_
        refine z_aload_n rfl rfl ?_
        refine z_getRn (m := 77) rfl fl_X5_7 rfl kd_76 rfl ?_
        refine z_iload_n rfl rfl ?_
        refine z_bipush rfl rfl ?_
        refine z_iadd rfl ?_
        refine z_iaload rfl kd_77 ?_
        refine z_S2i ms_X5_43 (t_X5_claimAt _ _ _) rfl rfl rfl rfl (fun r4 h4 => ?_)
        refine z_iconst rfl rfl ?_
        refine z_iadd rfl ?_
        refine z_iconst rfl rfl ?_
        refine z_iastoreL kd_77 rfl (fun h5 => ?_)
        refine z_aload_n rfl rfl ?_
        refine z_getRn (m := 77) rfl fl_X5_7 rfl kd_76 rfl ?_
        refine z_iload_n rfl rfl ?_
        refine z_bipush rfl rfl ?_
        refine z_iadd rfl ?_
        refine z_dup2 rfl rfl rfl ?_
        refine z_iaload rfl kd_77 ?_
        refine z_iconst rfl rfl ?_
        refine z_iadd rfl ?_
        refine z_iastoreL kd_77 rfl (fun h6 => ?_)
        refine z_aload_n rfl rfl ?_
        refine z_getRn (m := 77) rfl fl_X5_7 rfl kd_76 rfl ?_
        refine z_iload_n rfl rfl ?_
        refine z_bipush rfl rfl ?_
        refine z_iadd rfl ?_
        refine z_dup2 rfl rfl rfl ?_
        refine z_iaload rfl kd_77 ?_
        refine z_iconst rfl rfl ?_
        refine z_iadd rfl ?_
        refine z_iastoreL kd_77 rfl (fun h7 => ?_)
        refine z_aload_n rfl rfl ?_
        refine z_getRn (m := 77) rfl fl_X5_7 rfl kd_76 rfl ?_
        refine z_iload_n rfl rfl ?_
        refine z_bipush rfl rfl ?_
        refine z_iadd rfl ?_
        refine z_iaload rfl kd_77 ?_
        refine z_iconst rfl rfl ?_
        refine z_isub rfl ?_
        exact z_ireturn rfl rfl
      · refine z_ldc rfl cst_X5_98 rfl ?_
        exact z_ireturn rfl rfl
    · refine z_ldc rfl cst_X5_103 rfl ?_
      exact z_ireturn rfl rfl
  · refine z_ldc rfl cst_X5_97 rfl ?_
    exact z_ireturn rfl rfl
set_option maxRecDepth 20000 in
set_option maxHeartbeats 1000000 in
theorem t_X5_copies_L2 (x1 : Int) (x2 : Int) : ∀ (n : Nat) (x3 : Int) (h : Hp), Z M_X5_copies 2 [some (vr 76), some (vi x1), some (vi x2), some (vi x3)] [] h (f_X5_copies_L2 x1 x2 n x3 h) := by
  intro n
  induction n with
  | zero => intro x3 h; exact Z.nix
  | succ n ih =>
    intro x3 h
    rw [f_X5_copies_L2_s]
    refine z_iload_n rfl rfl ?_
    refine z_sipush rfl rfl ?_
    refine z_icmp_ge rfl ?_ ?_
    · exact z_return rfl rfl
    · refine z_aload_n rfl rfl ?_
      refine z_getRn (m := 77) rfl fl_X5_7 rfl kd_76 rfl ?_
      refine z_sipush rfl rfl ?_
      refine z_iload_n rfl rfl ?_
      refine z_imul rfl ?_
      refine z_iload_n rfl rfl ?_
      refine z_iadd rfl ?_
      refine z_aload_n rfl rfl ?_
      refine z_getRn (m := 77) rfl fl_X5_7 rfl kd_76 rfl ?_
      refine z_sipush rfl rfl ?_
      refine z_iload_n rfl rfl ?_
      refine z_imul rfl ?_
      refine z_iload_n rfl rfl ?_
      refine z_iadd rfl ?_
      refine z_iaload rfl kd_77 ?_
      refine z_iastoreL kd_77 rfl (fun h1 => ?_)
      refine z_iinc rfl rfl rfl ?_
      refine z_goto rfl ?_
      refine Z.weak ?_ (ih _ _)
      exact wkL_c (wkL_c (wkL_c (wkL_c (wkL_nil _))))
set_option maxRecDepth 20000 in
set_option maxHeartbeats 1000000 in
theorem t_X5_copies (x1 : Int) (x2 : Int) (h : Hp) : Ct M_X5_copies [vr 76, vi x1, vi x2] h (f_X5_copies x1 x2 h) := by
  refine Ct.mk ok_X5_copies pl_X5_copies rfl rfl ?_
  show Z M_X5_copies 0 [some (vr 76), some (vi x1), some (vi x2), none] [] h (f_X5_copies x1 x2 h)
  unfold f_X5_copies
  refine z_iconst rfl rfl ?_
  refine z_istore_n rfl rfl ?_
  refine Z.weak ?_ (t_X5_copies_L2  _ _     fu _ _)
  · exact wkL_c (wkL_c (wkL_c (wkL_c (wkL_nil _))))
set_option maxRecDepth 20000 in
set_option maxHeartbeats 1000000 in
theorem t_X5_records_J23  (h : Hp) : Z M_X5_records 23 [some (vr 76), none] [] h (f_X5_records_J23  h) := by
  unfold f_X5_records_J23
  refine z_aload_n rfl rfl ?_
  refine z_dup rfl rfl ?_
  refine z_getI rfl fl_X5_31 rfl kd_76 ?_
  refine z_iconst rfl rfl ?_
  refine z_iadd rfl ?_
  refine z_putL fi_X5_31 rfl kd_76 rfl (fun h1 => ?_)
  refine z_aload_n rfl rfl ?_
  refine z_iconst rfl rfl ?_
  refine z_aload_n rfl rfl ?_
  refine z_getI rfl fl_X5_31 rfl kd_76 ?_
  refine z_V2v ko5 mv_X5_35 kd_76 (t_X5_copies _ _ _) rfl rfl rfl rfl rfl (fun _ h2 => ?_)
  exact z_return rfl rfl
set_option maxRecDepth 20000 in
set_option maxHeartbeats 1000000 in
theorem t_X5_records_L6 (c17 : Hp → Option (Int × Hp)) (hc17 : ∀ (h : Hp), Z M_X5_records 17 [some (vr 76), none] [] h (c17  h)) : ∀ (n : Nat) (x1 : Int) (h : Hp), Z M_X5_records 6 [some (vr 76), some (vi x1)] [] h (f_X5_records_L6 c17 n x1 h) := by
  intro n
  induction n with
  | zero => intro x1 h; exact Z.nix
  | succ n ih =>
    intro x1 h
    rw [f_X5_records_L6_s]
    refine z_iload_n rfl rfl ?_
    refine z_iconst rfl rfl ?_
    refine z_icmp_ge rfl ?_ ?_
    · refine Z.weak ?_ (hc17 _)
      exact wkL_c (wkL_n (wkL_nil _))
    · refine z_aload_n rfl rfl ?_
      refine z_iload_n rfl rfl ?_
      refine z_iconst rfl rfl ?_
      refine z_iadd rfl ?_
      refine z_iload_n rfl rfl ?_
      refine z_V2v ko5 mv_X5_35 kd_76 (t_X5_copies _ _ _) rfl rfl rfl rfl rfl (fun _ h3 => ?_)
      refine z_iinc rfl rfl rfl ?_
      refine z_goto rfl ?_
      refine Z.weak ?_ (ih _ _)
      exact wkL_c (wkL_c (wkL_nil _))
set_option maxRecDepth 20000 in
set_option maxHeartbeats 1000000 in
theorem t_X5_records  (h : Hp) : Ct M_X5_records [vr 76] h (f_X5_records  h) := by
  refine Ct.mk ok_X5_records pl_X5_records rfl rfl ?_
  show Z M_X5_records 0 [some (vr 76), none] [] h (f_X5_records  h)
  unfold f_X5_records
  refine z_aload_n rfl rfl ?_
  refine z_getI rfl fl_X5_31 rfl kd_76 ?_
  refine z_iconst rfl rfl ?_
  refine z_icmp_ne rfl ?_ ?_
  · refine Z.weak ?_ (t_X5_records_J23   _)
    exact wkL_c (wkL_n (wkL_nil _))
  · refine z_iconst rfl rfl ?_
    refine z_istore_n rfl rfl ?_
    refine Z.weak ?_ (t_X5_records_L6   _  ?_  fu _ _)
    · exact wkL_c (wkL_c (wkL_nil _))
    · intro h4
      refine z_aload_n rfl rfl ?_
      refine z_dup rfl rfl ?_
      refine z_getI rfl fl_X5_31 rfl kd_76 ?_
      refine z_iconst rfl rfl ?_
      refine z_isub rfl ?_
      refine z_putL fi_X5_31 rfl kd_76 rfl (fun h5 => ?_)
      refine Z.weak ?_ (t_X5_records_J23   _)
      exact wkL_c (wkL_n (wkL_nil _))
set_option maxRecDepth 20000 in
set_option maxHeartbeats 1000000 in
theorem t_X5_done (x1 : Int) (h : Hp) : Ct M_X5_done [vr 76, vi x1] h (f_X5_done x1 h) := by
  refine Ct.mk ok_X5_done pl_X5_done rfl rfl ?_
  show Z M_X5_done 0 [some (vr 76), some (vi x1)] [] h (f_X5_done x1 h)
  unfold f_X5_done
  refine z_iload_n rfl rfl ?_
  refine z_if_lt rfl ?_ ?_
  · refine z_iload_n rfl rfl ?_
    exact z_ireturn rfl rfl
  · refine z_aload_n rfl rfl ?_
    refine z_V0v ko5 mv_X5_114 kd_76 (t_X5_records  _) rfl rfl rfl rfl rfl (fun _ h1 => ?_)
    refine z_aload_n rfl rfl ?_
    refine z_iconst rfl rfl ?_
    refine z_iconst rfl rfl ?_
    refine z_V2v ko5 mv_X5_35 kd_76 (t_X5_copies _ _ _) rfl rfl rfl rfl rfl (fun _ h2 => ?_)
    refine z_iload_n rfl rfl ?_
    exact z_ireturn rfl rfl
set_option maxRecDepth 20000 in
set_option maxHeartbeats 1000000 in
theorem t_X5_tried  (h : Hp) : Ct M_X5_tried [vr 76] h (f_X5_tried  h) := by
  refine Ct.mk ok_X5_tried pl_X5_tried rfl rfl ?_
  show Z M_X5_tried 0 [some (vr 76)] [] h (f_X5_tried  h)
  unfold f_X5_tried
  refine z_aload_n rfl rfl ?_
  refine z_iconst rfl rfl ?_
  refine z_iconst rfl rfl ?_
  refine z_V2v ko5 mv_X5_35 kd_76 (t_X5_copies _ _ _) rfl rfl rfl rfl rfl (fun _ h1 => ?_)
  refine z_sipush rfl rfl ?_
  exact z_ireturn rfl rfl
set_option maxRecDepth 20000 in
set_option maxHeartbeats 1000000 in
theorem t_X5_claim (x1 : Int) (x2 : Int) (x3 : Int) (x4 : Int) (h : Hp) : Ct M_X5_claim [vr 76, vi x1, vi x2, vi x3, vi x4] h (f_X5_claim x1 x2 x3 x4 h) := by
  refine Ct.mk ok_X5_claim pl_X5_claim rfl rfl ?_
  show Z M_X5_claim 0 [some (vr 76), some (vi x1), some (vi x2), some (vi x3), some (vi x4)] [] h (f_X5_claim x1 x2 x3 x4 h)
  unfold f_X5_claim
  refine z_aload_n rfl rfl ?_
  refine z_aload_n rfl rfl ?_
  refine z_aload_n rfl rfl ?_
  refine z_V0i ko5 mv_X5_117 kd_76 (t_X5_tried  _) rfl rfl rfl rfl rfl (fun r1 h1 => ?_)
  refine z_iload_n rfl rfl ?_
  refine z_iload_n rfl rfl ?_
  refine z_iload_n rfl rfl ?_
  refine z_iload rfl rfl ?_
  refine z_V5i ko5 mv_X5_128 kd_76 (t_X5_claims _ _ _ _ _ _) rfl rfl rfl rfl rfl (fun r2 h2 => ?_)
  refine z_V1i ko5 mv_X5_125 kd_76 (t_X5_done _ _) rfl rfl rfl rfl rfl (fun r3 h3 => ?_)
  exact z_ireturn rfl rfl
set_option maxRecDepth 20000 in
set_option maxHeartbeats 1000000 in
theorem t_X5_claimGoes_L14 (x1 : Int) : ∀ (n : Nat) (x3 : Int) (h : Hp), Z M_X5_claimGoes 14 [some (vr 76), some (vi x1), none, some (vi x3)] [] h (f_X5_claimGoes_L14 x1 n x3 h) := by
  intro n
  induction n with
  | zero => intro x3 h; exact Z.nix
  | succ n ih =>
    intro x3 h
    rw [f_X5_claimGoes_L14_s]
    refine z_iload_n rfl rfl ?_
    refine z_iload_n rfl rfl ?_
    refine z_aload_n rfl rfl ?_
    refine z_getRn (m := 77) rfl fl_X5_7 rfl kd_76 rfl ?_
    refine z_iload_n rfl rfl ?_
    refine z_bipush rfl rfl ?_
    refine z_iadd rfl ?_
    refine z_iaload rfl kd_77 ?_
    refine z_S2i ms_X5_43 (t_X5_claimAt _ _ _) rfl rfl rfl rfl (fun r3 h3 => ?_)
    refine z_icmp_ge rfl ?_ ?_
    · exact z_return rfl rfl
    · refine z_aload_n rfl rfl ?_
      refine z_getRn (m := 77) rfl fl_X5_7 rfl kd_76 rfl ?_
      refine z_iload_n rfl rfl ?_
      refine z_aload_n rfl rfl ?_
      refine z_getRn (m := 77) rfl fl_X5_7 rfl kd_76 rfl ?_
      refine z_iload_n rfl rfl ?_
      refine z_bipush rfl rfl ?_
      refine z_iadd rfl ?_
      refine z_iaload rfl kd_77 ?_
      refine z_iastoreL kd_77 rfl (fun h4 => ?_)
      refine z_iinc rfl rfl rfl ?_
      refine z_goto rfl ?_
      refine Z.weak ?_ (ih _ _)
      exact wkL_c (wkL_c (wkL_n (wkL_c (wkL_nil _))))
set_option maxRecDepth 20000 in
set_option maxHeartbeats 1000000 in
theorem t_X5_claimGoes (x1 : Int) (x2 : Int) (h : Hp) : Ct M_X5_claimGoes [vr 76, vi x1, vi x2] h (f_X5_claimGoes x1 x2 h) := by
  refine Ct.mk ok_X5_claimGoes pl_X5_claimGoes rfl rfl ?_
  show Z M_X5_claimGoes 0 [some (vr 76), some (vi x1), some (vi x2), none] [] h (f_X5_claimGoes x1 x2 h)
  unfold f_X5_claimGoes
  refine z_aload_n rfl rfl ?_
  refine z_getRn (m := 77) rfl fl_X5_7 rfl kd_76 rfl ?_
  refine z_iload_n rfl rfl ?_
  refine z_bipush rfl rfl ?_
  refine z_iadd rfl ?_
  refine z_dup2 rfl rfl rfl ?_
  refine z_iaload rfl kd_77 ?_
  refine z_iconst rfl rfl ?_
  refine z_isub rfl ?_
  refine z_iastoreL kd_77 rfl (fun h1 => ?_)
  refine z_iload_n rfl rfl ?_
  refine z_iload_n rfl rfl ?_
  refine z_S2i ms_X5_43 (t_X5_claimAt _ _ _) rfl rfl rfl rfl (fun r2 h2 => ?_)
  refine z_istore_n rfl rfl ?_
  refine Z.weak ?_ (t_X5_claimGoes_L14  _     fu _ _)
  · exact wkL_c (wkL_c (wkL_n (wkL_c (wkL_nil _))))
set_option maxRecDepth 20000 in
set_option maxHeartbeats 1000000 in
theorem t_X5_isClaim (x1 : Int) (x2 : Int) (h : Hp) : Ct M_X5_isClaim [vr 76, vi x1, vi x2] h (f_X5_isClaim x1 x2 h) := by
  refine Ct.mk ok_X5_isClaim pl_X5_isClaim rfl rfl ?_
  show Z M_X5_isClaim 0 [some (vr 76), some (vi x1), some (vi x2)] [] h (f_X5_isClaim x1 x2 h)
  unfold f_X5_isClaim
  refine z_iload_n rfl rfl ?_
  refine z_iconst rfl rfl ?_
  refine z_aload_n rfl rfl ?_
  refine z_getRn (m := 77) rfl fl_X5_7 rfl kd_76 rfl ?_
  refine z_iload_n rfl rfl ?_
  refine z_bipush rfl rfl ?_
  refine z_iadd rfl ?_
  refine z_iaload rfl kd_77 ?_
  refine z_iconst rfl rfl ?_
  refine z_isub rfl ?_
  refine z_S3i ms_X5_90 (t_X5_in _ _ _ _) rfl rfl rfl rfl (fun r1 h1 => ?_)
  exact z_zret rfl rfl
set_option maxRecDepth 20000 in
set_option maxHeartbeats 1000000 in
theorem t_X5_matches_J41 (c13 : Int → Int → Hp → Option (Int × Hp)) (x2 : Int) (x4 : Int) (x5 : Int) (s0 : Int) (hc13 : ∀ (y4 : Int) (y5 : Int) (h : Hp), Z M_X5_matches 13 [some (vr 76), none, some (vi x2), none, some (vi y4), some (vi y5), none] [] h (c13 y4 y5 h)) (h : Hp) : Z M_X5_matches 41 [some (vr 76), none, some (vi x2), none, some (vi x4), some (vi x5), none] [vi s0] h (f_X5_matches_J41 c13 x2 x4 x5 s0 h) := by
  unfold f_X5_matches_J41
  refine z_istore rfl rfl ?_
  refine z_iload rfl rfl ?_
  refine z_if_eq rfl ?_ ?_
  · refine z_iload rfl rfl ?_
    refine z_istore rfl rfl ?_
    refine z_iinc rfl rfl rfl ?_
    refine z_goto rfl ?_
    refine Z.weak ?_ (hc13 _ _ _)
    exact wkL_c (wkL_n (wkL_c (wkL_n (wkL_c (wkL_c (wkL_n (wkL_nil _)))))))
  · refine z_iload rfl rfl ?_
    refine z_iconst rfl rfl ?_
    refine z_icmp_eq rfl ?_ ?_
    · refine z_iload rfl rfl ?_
      refine z_goto rfl ?_
      refine z_istore rfl rfl ?_
      refine z_iinc rfl rfl rfl ?_
      refine z_goto rfl ?_
      refine Z.weak ?_ (hc13 _ _ _)
      exact wkL_c (wkL_n (wkL_c (wkL_n (wkL_c (wkL_c (wkL_n (wkL_nil _)))))))
    · refine z_aload_n rfl rfl ?_
      refine z_getRn (m := 81) rfl fl_X5_22 rfl kd_76 rfl ?_
      refine z_iload rfl rfl ?_
      refine z_iaload rfl kd_81 ?_
      refine z_aload_n rfl rfl ?_
      refine z_getRn (m := 81) rfl fl_X5_22 rfl kd_76 rfl ?_
      refine z_iload rfl rfl ?_
      refine z_iaload rfl kd_81 ?_
      refine z_icmp_le rfl ?_ ?_
      · refine z_iload rfl rfl ?_
        refine z_istore rfl rfl ?_
        refine z_iinc rfl rfl rfl ?_
        refine z_goto rfl ?_
        refine Z.weak ?_ (hc13 _ _ _)
        exact wkL_c (wkL_n (wkL_c (wkL_n (wkL_c (wkL_c (wkL_n (wkL_nil _)))))))
      · refine z_iload rfl rfl ?_
        refine z_goto rfl ?_
        refine z_istore rfl rfl ?_
        refine z_iinc rfl rfl rfl ?_
        refine z_goto rfl ?_
        refine Z.weak ?_ (hc13 _ _ _)
        exact wkL_c (wkL_n (wkL_c (wkL_n (wkL_c (wkL_c (wkL_n (wkL_nil _)))))))
set_option maxRecDepth 20000 in
set_option maxHeartbeats 1000000 in
theorem t_X5_matches_J40 (c13 : Int → Int → Hp → Option (Int × Hp)) (x2 : Int) (x4 : Int) (x5 : Int) (hc13 : ∀ (y4 : Int) (y5 : Int) (h : Hp), Z M_X5_matches 13 [some (vr 76), none, some (vi x2), none, some (vi y4), some (vi y5), none] [] h (c13 y4 y5 h)) (h : Hp) : Z M_X5_matches 40 [some (vr 76), none, some (vi x2), none, some (vi x4), some (vi x5), none] [] h (f_X5_matches_J40 c13 x2 x4 x5 h) := by
  unfold f_X5_matches_J40
  refine z_iconst rfl rfl ?_
  refine Z.weak ?_ (t_X5_matches_J41  _ _ _ _ _ hc13 _)
  exact wkL_c (wkL_n (wkL_c (wkL_n (wkL_c (wkL_c (wkL_n (wkL_nil _)))))))
set_option maxRecDepth 20000 in
set_option maxHeartbeats 1000000 in
theorem t_X5_matches_L13 (x2 : Int) (c62 : Int → Hp → Option (Int × Hp)) (hc62 : ∀ (y4 : Int) (h : Hp), Z M_X5_matches 62 [some (vr 76), none, some (vi x2), none, some (vi y4), none, none] [] h (c62 y4 h)) : ∀ (n : Nat) (x4 : Int) (x5 : Int) (h : Hp), Z M_X5_matches 13 [some (vr 76), none, some (vi x2), none, some (vi x4), some (vi x5), none] [] h (f_X5_matches_L13 x2 c62 n x4 x5 h) := by
  intro n
  induction n with
  | zero => intro x4 x5 h; exact Z.nix
  | succ n ih =>
    intro x4 x5 h
    rw [f_X5_matches_L13_s]
    refine z_iload rfl rfl ?_
    refine z_sipush rfl rfl ?_
    refine z_icmp_ge rfl ?_ ?_
    · refine Z.weak ?_ (hc62 _ _)
      exact wkL_c (wkL_n (wkL_c (wkL_n (wkL_c (wkL_n (wkL_n (wkL_nil _)))))))
    · refine z_aload_n rfl rfl ?_
      refine z_getRn (m := 81) rfl fl_X5_22 rfl kd_76 rfl ?_
      refine z_iload rfl rfl ?_
      refine z_iaload rfl kd_81 ?_
      refine z_iconst rfl rfl ?_
      refine z_icmp_eq rfl ?_ ?_
      · refine Z.weak ?_ (t_X5_matches_J40  _ _ _ _ ih _)
        exact wkL_c (wkL_n (wkL_c (wkL_n (wkL_c (wkL_c (wkL_n (wkL_nil _)))))))
      · refine z_aload_n rfl rfl ?_
        refine z_getRn (m := 79) rfl fl_X5_16 rfl kd_76 rfl ?_
        refine z_iload rfl rfl ?_
        refine z_bipush rfl rfl ?_
        refine z_idiv rfl rfl ?_
        refine z_iaload rfl kd_79 ?_
        refine z_iconst rfl rfl ?_
        refine z_icmp_ne rfl ?_ ?_
        · refine Z.weak ?_ (t_X5_matches_J40  _ _ _ _ ih _)
          exact wkL_c (wkL_n (wkL_c (wkL_n (wkL_c (wkL_c (wkL_n (wkL_nil _)))))))
        · refine z_aload_n rfl rfl ?_
          refine z_getRn (m := 80) rfl fl_X5_19 rfl kd_76 rfl ?_
          refine z_iload rfl rfl ?_
          refine z_bipush rfl rfl ?_
          refine z_irem rfl rfl ?_
          refine z_iaload rfl kd_80 ?_
          refine z_iconst rfl rfl ?_
          refine z_icmp_ne rfl ?_ ?_
          · refine Z.weak ?_ (t_X5_matches_J40  _ _ _ _ ih _)
            exact wkL_c (wkL_n (wkL_c (wkL_n (wkL_c (wkL_c (wkL_n (wkL_nil _)))))))
          · refine z_iconst rfl rfl ?_
            refine z_goto rfl ?_
            refine Z.weak ?_ (t_X5_matches_J41  _ _ _ _ _ ih _)
            exact wkL_c (wkL_n (wkL_c (wkL_n (wkL_c (wkL_c (wkL_n (wkL_nil _)))))))
set_option maxRecDepth 20000 in
set_option maxHeartbeats 1000000 in
theorem t_X5_matches_J68 (c7 : Int → Int → Hp → Option (Int × Hp)) (x2 : Int) (x4 : Int) (s0 : Int) (hc7 : ∀ (y2 : Int) (y3 : Int) (h : Hp), Z M_X5_matches 7 [some (vr 76), none, some (vi y2), some (vi y3), none, none, none] [] h (c7 y2 y3 h)) (h : Hp) : Z M_X5_matches 68 [some (vr 76), none, some (vi x2), none, some (vi x4), none, none] [vi s0] h (f_X5_matches_J68 c7 x2 x4 s0 h) := by
  unfold f_X5_matches_J68
  refine z_istore_n rfl rfl ?_
  refine z_iload_n rfl rfl ?_
  refine z_if_eq rfl ?_ ?_
  · refine z_goto rfl ?_
    refine Z.weak ?_ (hc7 _ _ _)
    exact wkL_c (wkL_n (wkL_c (wkL_c (wkL_n (wkL_n (wkL_n (wkL_nil _)))))))
  · refine z_aload_n rfl rfl ?_
    refine z_getRn (m := 79) rfl fl_X5_16 rfl kd_76 rfl ?_
    refine z_iload rfl rfl ?_
    refine z_bipush rfl rfl ?_
    refine z_idiv rfl rfl ?_
    refine z_iload rfl rfl ?_
    refine z_bipush rfl rfl ?_
    refine z_irem rfl rfl ?_
    refine z_iastoreL kd_79 rfl (fun h4 => ?_)
    refine z_aload_n rfl rfl ?_
    refine z_getRn (m := 80) rfl fl_X5_19 rfl kd_76 rfl ?_
    refine z_iload rfl rfl ?_
    refine z_bipush rfl rfl ?_
    refine z_irem rfl rfl ?_
    refine z_iload rfl rfl ?_
    refine z_bipush rfl rfl ?_
    refine z_idiv rfl rfl ?_
    refine z_iastoreL kd_80 rfl (fun h5 => ?_)
    refine z_iinc rfl rfl rfl ?_
    refine z_goto rfl ?_
    refine Z.weak ?_ (hc7 _ _ _)
    exact wkL_c (wkL_n (wkL_c (wkL_c (wkL_n (wkL_n (wkL_n (wkL_nil _)))))))
set_option maxRecDepth 20000 in
set_option maxHeartbeats 1000000 in
theorem t_X5_matches_L7  : ∀ (n : Nat) (x2 : Int) (x3 : Int) (h : Hp), Z M_X5_matches 7 [some (vr 76), none, some (vi x2), some (vi x3), none, none, none] [] h (f_X5_matches_L7  n x2 x3 h) := by
  intro n
  induction n with
  | zero => intro x2 x3 h; exact Z.nix
  | succ n ih =>
    intro x2 x3 h
    rw [f_X5_matches_L7_s]
    refine z_iload_n rfl rfl ?_
    refine z_if_eq rfl ?_ ?_
    · refine z_iload_n rfl rfl ?_
      exact z_ireturn rfl rfl
    · refine z_iconst rfl rfl ?_
      refine z_istore rfl rfl ?_
      refine z_iconst rfl rfl ?_
      refine z_istore rfl rfl ?_
      refine Z.weak ?_ (t_X5_matches_L13  _  _  ?_  fu _ _ _)
      · exact wkL_c (wkL_n (wkL_c (wkL_n (wkL_c (wkL_c (wkL_n (wkL_nil _)))))))
      · intro y2 h3
        refine z_iload rfl rfl ?_
        refine z_iconst rfl rfl ?_
        refine z_icmp_eq rfl ?_ ?_
        · refine z_iconst rfl rfl ?_
          refine Z.weak ?_ (t_X5_matches_J68  _ _ _ _ ih _)
          exact wkL_c (wkL_n (wkL_c (wkL_n (wkL_c (wkL_n (wkL_n (wkL_nil _)))))))
        · refine z_iconst rfl rfl ?_
          refine z_goto rfl ?_
          refine Z.weak ?_ (t_X5_matches_J68  _ _ _ _ ih _)
          exact wkL_c (wkL_n (wkL_c (wkL_n (wkL_c (wkL_n (wkL_n (wkL_nil _)))))))
set_option maxRecDepth 20000 in
set_option maxHeartbeats 1000000 in
theorem t_X5_matches (x1 : Int) (h : Hp) : Ct M_X5_matches [vr 76, vi x1] h (f_X5_matches x1 h) := by
  refine Ct.mk ok_X5_matches pl_X5_matches rfl rfl ?_
  show Z M_X5_matches 0 [some (vr 76), some (vi x1), none, none, none, none, none] [] h (f_X5_matches x1 h)
  unfold f_X5_matches
  refine z_aload_n rfl rfl ?_
  refine z_iload_n rfl rfl ?_
  refine z_V1v ko5 mv_X5_60 kd_76 (t_X5_clears _ _) rfl rfl rfl rfl rfl (fun _ h1 => ?_)
  refine z_iconst rfl rfl ?_
  refine z_istore_n rfl rfl ?_
  refine z_iconst rfl rfl ?_
  refine z_istore_n rfl rfl ?_
  refine Z.weak ?_ (t_X5_matches_L7      fu _ _ _)
  · exact wkL_c (wkL_n (wkL_c (wkL_c (wkL_n (wkL_n (wkL_n (wkL_nil _)))))))
set_option maxRecDepth 20000 in
set_option maxHeartbeats 1000000 in
theorem t_X5_matchOf (x1 : Int) (x2 : Int) (h : Hp) : Ct M_X5_matchOf [vr 76, vi x1, vi x2] h (f_X5_matchOf x1 x2 h) := by
  refine Ct.mk ok_X5_matchOf pl_X5_matchOf rfl rfl ?_
  show Z M_X5_matchOf 0 [some (vr 76), some (vi x1), some (vi x2), none] [] h (f_X5_matchOf x1 x2 h)
  unfold f_X5_matchOf
  refine z_aload_n rfl rfl ?_
  refine z_iload_n rfl rfl ?_
  refine z_V1i ko5 mv_X5_87 kd_76 (t_X5_matches _ _) rfl rfl rfl rfl rfl (fun r1 h1 => ?_)
  refine z_istore_n rfl rfl ?_
  refine z_aload_n rfl rfl ?_
  refine z_getRn (m := 80) rfl fl_X5_19 rfl kd_76 rfl ?_
  refine z_iload_n rfl rfl ?_
  refine z_iaload rfl kd_80 ?_
  refine z_iconst rfl rfl ?_
  refine z_icmp_ne rfl ?_ ?_
  · refine z_aload_n rfl rfl ?_
    refine z_getRn (m := 80) rfl fl_X5_19 rfl kd_76 rfl ?_
    refine z_iload_n rfl rfl ?_
    refine z_iaload rfl kd_80 ?_
    exact z_ireturn rfl rfl
  · refine z_ldc rfl cst_X5_144 rfl ?_
    refine z_goto rfl ?_
    exact z_ireturn rfl rfl
set_option maxRecDepth 20000 in
set_option maxHeartbeats 1000000 in
theorem t_X5_suiting_J30 (c7 : Int → Int → Hp → Option (Int × Hp)) (x1 : Int) (x2 : Int) (x3 : Int) (x4 : Int) (s0 : Int) (hc7 : ∀ (y3 : Int) (y4 : Int) (h : Hp), Z M_X5_suiting 7 [some (vr 76), some (vi x1), some (vi x2), some (vi y3), some (vi y4), none] [] h (c7 y3 y4 h)) (h : Hp) : Z M_X5_suiting 30 [some (vr 76), some (vi x1), some (vi x2), some (vi x3), some (vi x4), none] [vi s0] h (f_X5_suiting_J30 c7 x1 x2 x3 x4 s0 h) := by
  unfold f_X5_suiting_J30
  refine z_istore rfl rfl ?_
  refine z_iload_n rfl rfl ?_
  refine z_iload rfl rfl ?_
  refine z_if_eq rfl ?_ ?_
  · refine z_iconst rfl rfl ?_
    refine z_iadd rfl ?_
    refine z_istore_nL rfl rfl (fun y2 => ?_)
    refine z_iinc rfl rfl rfl ?_
    refine z_goto rfl ?_
    refine Z.weak ?_ (hc7 _ _ _)
    exact wkL_c (wkL_c (wkL_c (wkL_c (wkL_c (wkL_n (wkL_nil _))))))
  · refine z_aload_n rfl rfl ?_
    refine z_getRn (m := 81) rfl fl_X5_22 rfl kd_76 rfl ?_
    refine z_iload rfl rfl ?_
    refine z_iaload rfl kd_81 ?_
    refine z_iconst rfl rfl ?_
    refine z_icmp_eq rfl ?_ ?_
    · refine z_iconst rfl rfl ?_
      refine z_iadd rfl ?_
      refine z_istore_nL rfl rfl (fun y3 => ?_)
      refine z_iinc rfl rfl rfl ?_
      refine z_goto rfl ?_
      refine Z.weak ?_ (hc7 _ _ _)
      exact wkL_c (wkL_c (wkL_c (wkL_c (wkL_c (wkL_n (wkL_nil _))))))
    · refine z_iconst rfl rfl ?_
      refine z_goto rfl ?_
      refine z_iadd rfl ?_
      refine z_istore_nL rfl rfl (fun y4 => ?_)
      refine z_iinc rfl rfl rfl ?_
      refine z_goto rfl ?_
      refine Z.weak ?_ (hc7 _ _ _)
      exact wkL_c (wkL_c (wkL_c (wkL_c (wkL_c (wkL_n (wkL_nil _))))))
set_option maxRecDepth 20000 in
set_option maxHeartbeats 1000000 in
theorem t_X5_suiting_L7 (x1 : Int) (x2 : Int) : ∀ (n : Nat) (x3 : Int) (x4 : Int) (h : Hp), Z M_X5_suiting 7 [some (vr 76), some (vi x1), some (vi x2), some (vi x3), some (vi x4), none] [] h (f_X5_suiting_L7 x1 x2 n x3 x4 h) := by
  intro n
  induction n with
  | zero => intro x3 x4 h; exact Z.nix
  | succ n ih =>
    intro x3 x4 h
    rw [f_X5_suiting_L7_s]
    refine z_iload rfl rfl ?_
    refine z_sipush rfl rfl ?_
    refine z_icmp_ge rfl ?_ ?_
    · refine z_iload_n rfl rfl ?_
      exact z_ireturn rfl rfl
    · refine z_iload_n rfl rfl ?_
      refine z_iconst rfl rfl ?_
      refine z_icmp_ne rfl ?_ ?_
      · refine z_iload rfl rfl ?_
        refine z_bipush rfl rfl ?_
        refine z_idiv rfl rfl ?_
        refine z_iload_n rfl rfl ?_
        refine z_icmp_ne rfl ?_ ?_
        · refine z_iconst rfl rfl ?_
          refine Z.weak ?_ (t_X5_suiting_J30  _ _ _ _ _ _ ih _)
          exact wkL_c (wkL_c (wkL_c (wkL_c (wkL_c (wkL_n (wkL_nil _))))))
        · refine z_iconst rfl rfl ?_
          refine z_goto rfl ?_
          refine Z.weak ?_ (t_X5_suiting_J30  _ _ _ _ _ _ ih _)
          exact wkL_c (wkL_c (wkL_c (wkL_c (wkL_c (wkL_n (wkL_nil _))))))
      · refine z_iload rfl rfl ?_
        refine z_bipush rfl rfl ?_
        refine z_irem rfl rfl ?_
        refine z_iload_n rfl rfl ?_
        refine z_icmp_ne rfl ?_ ?_
        · refine z_iconst rfl rfl ?_
          refine z_goto rfl ?_
          refine Z.weak ?_ (t_X5_suiting_J30  _ _ _ _ _ _ ih _)
          exact wkL_c (wkL_c (wkL_c (wkL_c (wkL_c (wkL_n (wkL_nil _))))))
        · refine z_iconst rfl rfl ?_
          refine z_goto rfl ?_
          refine Z.weak ?_ (t_X5_suiting_J30  _ _ _ _ _ _ ih _)
          exact wkL_c (wkL_c (wkL_c (wkL_c (wkL_c (wkL_n (wkL_nil _))))))
set_option maxRecDepth 20000 in
set_option maxHeartbeats 1000000 in
theorem t_X5_suiting (x1 : Int) (x2 : Int) (h : Hp) : Ct M_X5_suiting [vr 76, vi x1, vi x2] h (f_X5_suiting x1 x2 h) := by
  refine Ct.mk ok_X5_suiting pl_X5_suiting rfl rfl ?_
  show Z M_X5_suiting 0 [some (vr 76), some (vi x1), some (vi x2), none, none, none] [] h (f_X5_suiting x1 x2 h)
  unfold f_X5_suiting
  refine z_aload_n rfl rfl ?_
  refine z_iconst rfl rfl ?_
  refine z_V1v ko5 mv_X5_60 kd_76 (t_X5_clears _ _) rfl rfl rfl rfl rfl (fun _ h1 => ?_)
  refine z_iconst rfl rfl ?_
  refine z_istore_n rfl rfl ?_
  refine z_iconst rfl rfl ?_
  refine z_istore rfl rfl ?_
  refine Z.weak ?_ (t_X5_suiting_L7  _ _     fu _ _ _)
  · exact wkL_c (wkL_c (wkL_c (wkL_c (wkL_c (wkL_n (wkL_nil _))))))
set_option maxRecDepth 20000 in
set_option maxHeartbeats 1000000 in
theorem t_X5_claimOf (x1 : Int) (x2 : Int) (h : Hp) : Ct M_X5_claimOf [vr 76, vi x1, vi x2] h (f_X5_claimOf x1 x2 h) := by
  refine Ct.mk ok_X5_claimOf pl_X5_claimOf rfl rfl ?_
  show Z M_X5_claimOf 0 [some (vr 76), some (vi x1), some (vi x2), none] [] h (f_X5_claimOf x1 x2 h)
  unfold f_X5_claimOf
  refine z_aload_n rfl rfl ?_
  refine z_iconst rfl rfl ?_
  refine z_iload_n rfl rfl ?_
  refine z_V2i ko5 mv_X5_104 kd_76 (t_X5_isClaim _ _ _) rfl rfl rfl rfl rfl (fun r1 h1 => ?_)
  refine z_if_eq rfl ?_ ?_
  · refine z_ldc rfl cst_X5_97 rfl ?_
    exact z_ireturn rfl rfl
  · refine z_iload_n rfl rfl ?_
    refine z_iconst rfl rfl ?_
    refine z_bipush rfl rfl ?_
    refine z_S3i ms_X5_90 (t_X5_in _ _ _ _) rfl rfl rfl rfl (fun r2 h2 => ?_)
    refine z_if_ne rfl ?_ ?_
    · refine z_iconst rfl rfl ?_
      refine z_iload_n rfl rfl ?_
      refine z_S2i ms_X5_43 (t_X5_claimAt _ _ _) rfl rfl rfl rfl (fun r3 h3 => ?_)
      refine z_istore_n rfl rfl ?_
      refine z_iload_n rfl rfl ?_
      refine Z.ite (fun e4 => ?_) (fun e4 => ?_)
      · refine z_table (tg := 18) rfl (o := 31) (by rw [e4]; rfl) rfl ?_
        refine z_aload_n rfl rfl ?_
        refine z_getRn (m := 77) rfl fl_X5_7 rfl kd_76 rfl ?_
        refine z_iload_n rfl rfl ?_
        refine z_iconst rfl rfl ?_
        refine z_iadd rfl ?_
        refine z_iaload rfl kd_77 ?_
        exact z_ireturn rfl rfl
      refine Z.ite (fun e6 => ?_) (fun e6 => ?_)
      · refine z_table (tg := 25) rfl (o := 40) (by rw [e6]; rfl) rfl ?_
        refine z_aload_n rfl rfl ?_
        refine z_iconst rfl rfl ?_
        refine z_iload_n rfl rfl ?_
        refine z_V2i ko5 mv_X5_159 kd_76 (t_X5_matchOf _ _ _) rfl rfl rfl rfl rfl (fun r5 h5 => ?_)
        exact z_ireturn rfl rfl
      refine Z.ite (fun e8 => ?_) (fun e8 => ?_)
      · refine z_table (tg := 30) rfl (o := 47) (by rw [e8]; rfl) rfl ?_
        refine z_aload_n rfl rfl ?_
        refine z_iconst rfl rfl ?_
        refine z_iload_n rfl rfl ?_
        refine z_V2i ko5 mv_X5_153 kd_76 (t_X5_suiting _ _ _) rfl rfl rfl rfl rfl (fun r7 h7 => ?_)
        exact z_ireturn rfl rfl
      refine Z.ite (fun e9 => ?_) (fun e9 => ?_)
      · refine z_table (tg := 35) rfl (o := 54) (by rw [e9]; rfl) rfl ?_
        refine z_aload_n rfl rfl ?_
        refine z_getRn (m := 77) rfl fl_X5_7 rfl kd_76 rfl ?_
        refine z_iload_n rfl rfl ?_
        refine z_iconst rfl rfl ?_
        refine z_iadd rfl ?_
        refine z_iaload rfl kd_77 ?_
        exact z_ireturn rfl rfl
      refine z_table (tg := 42) rfl (o := 63) (if_pos (by omega)) rfl ?_
      refine z_aload_n rfl rfl ?_
      refine z_getRn (m := 77) rfl fl_X5_7 rfl kd_76 rfl ?_
      refine z_iload_n rfl rfl ?_
      refine z_iload_n rfl rfl ?_
      refine z_iadd rfl ?_
      refine z_iaload rfl kd_77 ?_
      refine z_iconst rfl rfl ?_
      refine z_icmp_ne rfl ?_ ?_
      · refine z_aload_n rfl rfl ?_
        refine z_getRn (m := 77) rfl fl_X5_7 rfl kd_76 rfl ?_
        refine z_iload_n rfl rfl ?_
        refine z_iload_n rfl rfl ?_
        refine z_iadd rfl ?_
        refine z_iaload rfl kd_77 ?_
        exact z_ireturn rfl rfl
      · refine z_ldc rfl cst_X5_144 rfl ?_
        refine z_goto rfl ?_
        exact z_ireturn rfl rfl
    · refine z_ldc rfl cst_X5_97 rfl ?_
      exact z_ireturn rfl rfl
set_option maxRecDepth 20000 in
set_option maxHeartbeats 1000000 in
theorem t_X5_clearText  (h : Hp) : Ct M_X5_clearText [vr 76] h (f_X5_clearText  h) := by
  refine Ct.mk ok_X5_clearText pl_X5_clearText rfl rfl ?_
  show Z M_X5_clearText 0 [some (vr 76), none] [] h (f_X5_clearText  h)
  unfold f_X5_clearText
  refine z_aload_n rfl rfl ?_
  refine z_getI rfl fl_X5_171 rfl kd_76 ?_
  refine z_istore_nL rfl rfl (fun y1 => ?_)
  refine z_aload_n rfl rfl ?_
  refine z_iconst rfl rfl ?_
  refine z_putL fi_X5_171 rfl kd_76 rfl (fun h2 => ?_)
  refine z_iload_n rfl rfl ?_
  exact z_ireturn rfl rfl
set_option maxRecDepth 20000 in
set_option maxHeartbeats 1000000 in
theorem t_X5_count (x1 : Int) (h : Hp) : Ct M_X5_count [vr 76, vi x1] h (f_X5_count x1 h) := by
  refine Ct.mk ok_X5_count pl_X5_count rfl rfl ?_
  show Z M_X5_count 0 [some (vr 76), some (vi x1)] [] h (f_X5_count x1 h)
  unfold f_X5_count
  refine z_iload_n rfl rfl ?_
  refine z_bipush rfl rfl ?_
  refine z_bipush rfl rfl ?_
  refine z_S3i ms_X5_90 (t_X5_in _ _ _ _) rfl rfl rfl rfl (fun r1 h1 => ?_)
  refine z_if_eq rfl ?_ ?_
  · refine z_iload_n rfl rfl ?_
    refine Z.ite (fun e2 => ?_) (fun e2 => ?_)
    · refine z_table (tg := 16) rfl (o := 76) (by rw [e2]; rfl) rfl ?_
      refine z_aload_n rfl rfl ?_
      refine z_getRn (m := 77) rfl fl_X5_7 rfl kd_76 rfl ?_
      refine z_iconst rfl rfl ?_
      refine z_iaload rfl kd_77 ?_
      exact z_ireturn rfl rfl
    refine Z.ite (fun e3 => ?_) (fun e3 => ?_)
    · refine z_table (tg := 21) rfl (o := 83) (by rw [e3]; rfl) rfl ?_
      refine z_aload_n rfl rfl ?_
      refine z_getRn (m := 77) rfl fl_X5_7 rfl kd_76 rfl ?_
      refine z_bipush rfl rfl ?_
      refine z_iload_n rfl rfl ?_
      refine z_iadd rfl ?_
      refine z_iconst rfl rfl ?_
      refine z_isub rfl ?_
      refine z_iaload rfl kd_77 ?_
      exact z_ireturn rfl rfl
    refine Z.ite (fun e4 => ?_) (fun e4 => ?_)
    · refine z_table (tg := 21) rfl (o := 83) (by rw [e4]; rfl) rfl ?_
      refine z_aload_n rfl rfl ?_
      refine z_getRn (m := 77) rfl fl_X5_7 rfl kd_76 rfl ?_
      refine z_bipush rfl rfl ?_
      refine z_iload_n rfl rfl ?_
      refine z_iadd rfl ?_
      refine z_iconst rfl rfl ?_
      refine z_isub rfl ?_
      refine z_iaload rfl kd_77 ?_
      exact z_ireturn rfl rfl
    refine Z.ite (fun e6 => ?_) (fun e6 => ?_)
    · refine z_table (tg := 30) rfl (o := 95) (by rw [e6]; rfl) rfl ?_
      refine z_aload_n rfl rfl ?_
      refine z_iconst rfl rfl ?_
      refine z_V1i ko5 mv_X5_87 kd_76 (t_X5_matches _ _) rfl rfl rfl rfl rfl (fun r5 h5 => ?_)
      exact z_ireturn rfl rfl
    refine Z.ite (fun e8 => ?_) (fun e8 => ?_)
    · refine z_table (tg := 34) rfl (o := 101) (by rw [e8]; rfl) rfl ?_
      refine z_aload_n rfl rfl ?_
      refine z_iconst rfl rfl ?_
      refine z_V1i ko5 mv_X5_168 kd_76 (t_X5_byAsking _ _) rfl rfl rfl rfl rfl (fun r7 h7 => ?_)
      exact z_ireturn rfl rfl
    refine Z.ite (fun e9 => ?_) (fun e9 => ?_)
    · refine z_table (tg := 38) rfl (o := 107) (by rw [e9]; rfl) rfl ?_
      refine z_aload_n rfl rfl ?_
      refine z_getRn (m := 77) rfl fl_X5_7 rfl kd_76 rfl ?_
      refine z_bipush rfl rfl ?_
      refine z_iload_n rfl rfl ?_
      refine z_iadd rfl ?_
      refine z_iconst rfl rfl ?_
      refine z_isub rfl ?_
      refine z_iaload rfl kd_77 ?_
      exact z_ireturn rfl rfl
    refine Z.ite (fun e10 => ?_) (fun e10 => ?_)
    · refine z_table (tg := 38) rfl (o := 107) (by rw [e10]; rfl) rfl ?_
      refine z_aload_n rfl rfl ?_
      refine z_getRn (m := 77) rfl fl_X5_7 rfl kd_76 rfl ?_
      refine z_bipush rfl rfl ?_
      refine z_iload_n rfl rfl ?_
      refine z_iadd rfl ?_
      refine z_iconst rfl rfl ?_
      refine z_isub rfl ?_
      refine z_iaload rfl kd_77 ?_
      exact z_ireturn rfl rfl
    refine Z.ite (fun e11 => ?_) (fun e11 => ?_)
    · refine z_table (tg := 38) rfl (o := 107) (by rw [e11]; rfl) rfl ?_
      refine z_aload_n rfl rfl ?_
      refine z_getRn (m := 77) rfl fl_X5_7 rfl kd_76 rfl ?_
      refine z_bipush rfl rfl ?_
      refine z_iload_n rfl rfl ?_
      refine z_iadd rfl ?_
      refine z_iconst rfl rfl ?_
      refine z_isub rfl ?_
      refine z_iaload rfl kd_77 ?_
      exact z_ireturn rfl rfl
    refine Z.ite (fun e12 => ?_) (fun e12 => ?_)
    · refine z_table (tg := 38) rfl (o := 107) (by rw [e12]; rfl) rfl ?_
      refine z_aload_n rfl rfl ?_
      refine z_getRn (m := 77) rfl fl_X5_7 rfl kd_76 rfl ?_
      refine z_bipush rfl rfl ?_
      refine z_iload_n rfl rfl ?_
      refine z_iadd rfl ?_
      refine z_iconst rfl rfl ?_
      refine z_isub rfl ?_
      refine z_iaload rfl kd_77 ?_
      exact z_ireturn rfl rfl
    refine Z.ite (fun e13 => ?_) (fun e13 => ?_)
    · refine z_table (tg := 38) rfl (o := 107) (by rw [e13]; rfl) rfl ?_
      refine z_aload_n rfl rfl ?_
      refine z_getRn (m := 77) rfl fl_X5_7 rfl kd_76 rfl ?_
      refine z_bipush rfl rfl ?_
      refine z_iload_n rfl rfl ?_
      refine z_iadd rfl ?_
      refine z_iconst rfl rfl ?_
      refine z_isub rfl ?_
      refine z_iaload rfl kd_77 ?_
      exact z_ireturn rfl rfl
    refine Z.ite (fun e14 => ?_) (fun e14 => ?_)
    · refine z_table (tg := 38) rfl (o := 107) (by rw [e14]; rfl) rfl ?_
      refine z_aload_n rfl rfl ?_
      refine z_getRn (m := 77) rfl fl_X5_7 rfl kd_76 rfl ?_
      refine z_bipush rfl rfl ?_
      refine z_iload_n rfl rfl ?_
      refine z_iadd rfl ?_
      refine z_iconst rfl rfl ?_
      refine z_isub rfl ?_
      refine z_iaload rfl kd_77 ?_
      exact z_ireturn rfl rfl
    refine Z.ite (fun e15 => ?_) (fun e15 => ?_)
    · refine z_table (tg := 38) rfl (o := 107) (by rw [e15]; rfl) rfl ?_
      refine z_aload_n rfl rfl ?_
      refine z_getRn (m := 77) rfl fl_X5_7 rfl kd_76 rfl ?_
      refine z_bipush rfl rfl ?_
      refine z_iload_n rfl rfl ?_
      refine z_iadd rfl ?_
      refine z_iconst rfl rfl ?_
      refine z_isub rfl ?_
      refine z_iaload rfl kd_77 ?_
      exact z_ireturn rfl rfl
    refine Z.ite (fun e16 => ?_) (fun e16 => ?_)
    · refine z_table (tg := 47) rfl (o := 119) (by rw [e16]; rfl) rfl ?_
      refine z_aload_n rfl rfl ?_
      refine z_getRn (m := 77) rfl fl_X5_7 rfl kd_76 rfl ?_
      refine z_bipush rfl rfl ?_
      refine z_iaload rfl kd_77 ?_
      exact z_ireturn rfl rfl
    refine Z.ite (fun e17 => ?_) (fun e17 => ?_)
    · refine z_table (tg := 52) rfl (o := 127) (by rw [e17]; rfl) rfl ?_
      refine z_aload_n rfl rfl ?_
      refine z_getI rfl fl_X5_31 rfl kd_76 ?_
      exact z_ireturn rfl rfl
    refine Z.ite (fun e18 => ?_) (fun e18 => ?_)
    · refine z_table (tg := 55) rfl (o := 132) (by rw [e18]; rfl) rfl ?_
      refine z_aload_n rfl rfl ?_
      refine z_getI rfl fl_X5_171 rfl kd_76 ?_
      exact z_ireturn rfl rfl
    refine z_table (tg := 58) rfl (o := 137) (if_pos (by omega)) rfl ?_
    refine z_ldc rfl cst_X5_97 rfl ?_
    exact z_ireturn rfl rfl
  · refine z_aload_n rfl rfl ?_
    refine z_getRn (m := 77) rfl fl_X5_7 rfl kd_76 rfl ?_
    refine z_iconst rfl rfl ?_
    refine z_iload_n rfl rfl ?_
    refine z_iadd rfl ?_
    refine z_bipush rfl rfl ?_
    refine z_isub rfl ?_
    refine z_iaload rfl kd_77 ?_
    exact z_ireturn rfl rfl
set_option maxRecDepth 20000 in
set_option maxHeartbeats 1000000 in
theorem t_X5_finds (x1 : Int) (x2 : Int) (x3 : Int) (x4 : Int) (x5 : Int) (h : Hp) : Ct M_X5_finds [vr 76, vi x1, vi x2, vi x3, vi x4, vi x5] h (f_X5_finds x1 x2 x3 x4 x5 h) := by
  refine Ct.mk ok_X5_finds pl_X5_finds rfl rfl ?_
  show Z M_X5_finds 0 [some (vr 76), some (vi x1), some (vi x2), some (vi x3), some (vi x4), some (vi x5)] [] h (f_X5_finds x1 x2 x3 x4 x5 h)
  unfold f_X5_finds
  refine z_iconst rfl rfl ?_
  refine z_iload_n rfl rfl ?_
  refine z_iload_n rfl rfl ?_
  refine z_iload rfl rfl ?_
  refine z_iload rfl rfl ?_
  refine z_S5i ms_X5_93 (t_X5_areValues _ _ _ _ _ _) rfl rfl rfl rfl (fun r1 h1 => ?_)
  refine z_if_ne rfl ?_ ?_
  · refine z_aload_n rfl rfl ?_
    refine z_getRn (m := 77) rfl fl_X5_7 rfl kd_76 rfl ?_
    refine z_iload_n rfl rfl ?_
    refine z_bipush rfl rfl ?_
    refine z_iadd rfl ?_
    refine z_iaload rfl kd_77 ?_
    refine z_bipush rfl rfl ?_
    refine z_icmp_ne rfl ?_ ?_
    · refine z_aload_n rfl rfl ?_
      refine z_iload_n rfl rfl ?_
      refine z_aload_n rfl rfl ?_
      refine z_getRn (m := 77) rfl fl_X5_7 rfl kd_76 rfl ?_
      refine z_iload_n rfl rfl ?_
      refine z_bipush rfl rfl ?_
      refine z_iadd rfl ?_
      refine z_iaload rfl kd_77 ?_
      refine z_S2i ms_X5_39 (t_X5_umbrellaAt _ _ _) rfl rfl rfl rfl (fun r2 h2 => ?_)
      refine z_iload_n rfl rfl ?_
      refine z_iload_n rfl rfl ?_
      refine z_iload rfl rfl ?_
      refine z_iload rfl rfl ?_
      refine z_V5v ko5 mv_X5_99 kd_76 (t_X5_lays _ _ _ _ _ _) rfl rfl rfl rfl rfl (fun _ h3 => ?_)
      refine z_aload_n rfl rfl ?_
      refine z_getRn (m := 77) rfl fl_X5_7 rfl kd_76 rfl ?_
      refine z_iload_n rfl rfl ?_
      refine z_bipush rfl rfl ?_
      refine z_iadd rfl ?_
      refine z_dup2 rfl rfl rfl ?_
      refine z_iaload rfl kd_77 ?_
      refine z_iconst rfl rfl ?_
      refine z_iadd rfl ?_
      refine z_iastoreL kd_77 rfl (fun h4 => ?_)
      refine z_aload_n rfl rfl ?_
      refine z_getRn (m := 77) rfl fl_X5_7 rfl kd_76 rfl ?_
      refine z_iload_n rfl rfl ?_
      refine z_bipush rfl rfl ?_
      refine z_iadd rfl ?_
      refine z_dup2 rfl rfl rfl ?_
      refine z_iaload rfl kd_77 ?_
      refine z_iconst rfl rfl ?_
      refine z_iadd rfl ?_
      refine z_iastoreL kd_77 rfl (fun h5 => ?_)
      refine z_aload_n rfl rfl ?_
      refine z_getRn (m := 77) rfl fl_X5_7 rfl kd_76 rfl ?_
      refine z_iload_n rfl rfl ?_
      refine z_bipush rfl rfl ?_
      refine z_iadd rfl ?_
      refine z_iaload rfl kd_77 ?_
      refine z_iconst rfl rfl ?_
      refine z_isub rfl ?_
      exact z_ireturn rfl rfl
    · refine z_ldc rfl cst_X5_98 rfl ?_
      exact z_ireturn rfl rfl
  · refine z_ldc rfl cst_X5_97 rfl ?_
    exact z_ireturn rfl rfl
set_option maxRecDepth 20000 in
set_option maxHeartbeats 1000000 in
theorem t_X5_umbrellaGoes_L14 (x1 : Int) : ∀ (n : Nat) (x3 : Int) (h : Hp), Z M_X5_umbrellaGoes 14 [some (vr 76), some (vi x1), none, some (vi x3)] [] h (f_X5_umbrellaGoes_L14 x1 n x3 h) := by
  intro n
  induction n with
  | zero => intro x3 h; exact Z.nix
  | succ n ih =>
    intro x3 h
    rw [f_X5_umbrellaGoes_L14_s]
    refine z_iload_n rfl rfl ?_
    refine z_iload_n rfl rfl ?_
    refine z_aload_n rfl rfl ?_
    refine z_getRn (m := 77) rfl fl_X5_7 rfl kd_76 rfl ?_
    refine z_iload_n rfl rfl ?_
    refine z_bipush rfl rfl ?_
    refine z_iadd rfl ?_
    refine z_iaload rfl kd_77 ?_
    refine z_S2i ms_X5_39 (t_X5_umbrellaAt _ _ _) rfl rfl rfl rfl (fun r3 h3 => ?_)
    refine z_icmp_ge rfl ?_ ?_
    · exact z_return rfl rfl
    · refine z_aload_n rfl rfl ?_
      refine z_getRn (m := 77) rfl fl_X5_7 rfl kd_76 rfl ?_
      refine z_iload_n rfl rfl ?_
      refine z_aload_n rfl rfl ?_
      refine z_getRn (m := 77) rfl fl_X5_7 rfl kd_76 rfl ?_
      refine z_iload_n rfl rfl ?_
      refine z_iconst rfl rfl ?_
      refine z_iadd rfl ?_
      refine z_iaload rfl kd_77 ?_
      refine z_iastoreL kd_77 rfl (fun h4 => ?_)
      refine z_iinc rfl rfl rfl ?_
      refine z_goto rfl ?_
      refine Z.weak ?_ (ih _ _)
      exact wkL_c (wkL_c (wkL_n (wkL_c (wkL_nil _))))
set_option maxRecDepth 20000 in
set_option maxHeartbeats 1000000 in
theorem t_X5_umbrellaGoes (x1 : Int) (x2 : Int) (h : Hp) : Ct M_X5_umbrellaGoes [vr 76, vi x1, vi x2] h (f_X5_umbrellaGoes x1 x2 h) := by
  refine Ct.mk ok_X5_umbrellaGoes pl_X5_umbrellaGoes rfl rfl ?_
  show Z M_X5_umbrellaGoes 0 [some (vr 76), some (vi x1), some (vi x2), none] [] h (f_X5_umbrellaGoes x1 x2 h)
  unfold f_X5_umbrellaGoes
  refine z_aload_n rfl rfl ?_
  refine z_getRn (m := 77) rfl fl_X5_7 rfl kd_76 rfl ?_
  refine z_iload_n rfl rfl ?_
  refine z_bipush rfl rfl ?_
  refine z_iadd rfl ?_
  refine z_dup2 rfl rfl rfl ?_
  refine z_iaload rfl kd_77 ?_
  refine z_iconst rfl rfl ?_
  refine z_isub rfl ?_
  refine z_iastoreL kd_77 rfl (fun h1 => ?_)
  refine z_iload_n rfl rfl ?_
  refine z_iload_n rfl rfl ?_
  refine z_S2i ms_X5_39 (t_X5_umbrellaAt _ _ _) rfl rfl rfl rfl (fun r2 h2 => ?_)
  refine z_istore_n rfl rfl ?_
  refine Z.weak ?_ (t_X5_umbrellaGoes_L14  _     fu _ _)
  · exact wkL_c (wkL_c (wkL_n (wkL_c (wkL_nil _))))
set_option maxRecDepth 20000 in
set_option maxHeartbeats 1000000 in
theorem t_X5_writes_J41 (x1 : Int) (x2 : Int) (x3 : Int) (x4 : Int) (h : Hp) : Z M_X5_writes 41 [some (vr 76), some (vi x1), some (vi x2), some (vi x3), some (vi x4), none] [] h (f_X5_writes_J41 x1 x2 x3 x4 h) := by
  unfold f_X5_writes_J41
  refine z_iload_n rfl rfl ?_
  refine z_sipush rfl rfl ?_
  refine z_iadd rfl ?_
  refine z_iconst rfl rfl ?_
  refine z_aload_n rfl rfl ?_
  refine z_getRn (m := 77) rfl fl_X5_7 rfl kd_76 rfl ?_
  refine z_iload_n rfl rfl ?_
  refine z_bipush rfl rfl ?_
  refine z_iadd rfl ?_
  refine z_iaload rfl kd_77 ?_
  refine z_imul rfl ?_
  refine z_iadd rfl ?_
  refine z_istoreL rfl rfl (fun y1 => ?_)
  refine z_aload_n rfl rfl ?_
  refine z_getRn (m := 77) rfl fl_X5_7 rfl kd_76 rfl ?_
  refine z_iload rfl rfl ?_
  refine z_aload_n rfl rfl ?_
  refine z_getRn (m := 77) rfl fl_X5_7 rfl kd_76 rfl ?_
  refine z_iload_n rfl rfl ?_
  refine z_iconst rfl rfl ?_
  refine z_iadd rfl ?_
  refine z_iaload rfl kd_77 ?_
  refine z_iastoreL kd_77 rfl (fun h2 => ?_)
  refine z_aload_n rfl rfl ?_
  refine z_getRn (m := 77) rfl fl_X5_7 rfl kd_76 rfl ?_
  refine z_iload rfl rfl ?_
  refine z_iconst rfl rfl ?_
  refine z_iadd rfl ?_
  refine z_iload_n rfl rfl ?_
  refine z_iastoreL kd_77 rfl (fun h3 => ?_)
  refine z_aload_n rfl rfl ?_
  refine z_getRn (m := 77) rfl fl_X5_7 rfl kd_76 rfl ?_
  refine z_iload rfl rfl ?_
  refine z_iconst rfl rfl ?_
  refine z_iadd rfl ?_
  refine z_iload_n rfl rfl ?_
  refine z_iastoreL kd_77 rfl (fun h4 => ?_)
  refine z_aload_n rfl rfl ?_
  refine z_getRn (m := 77) rfl fl_X5_7 rfl kd_76 rfl ?_
  refine z_iload rfl rfl ?_
  refine z_iconst rfl rfl ?_
  refine z_iadd rfl ?_
  refine z_iload rfl rfl ?_
  refine z_iastoreL kd_77 rfl (fun h5 => ?_)
  refine z_aload_n rfl rfl ?_
  refine z_getRn (m := 77) rfl fl_X5_7 rfl kd_76 rfl ?_
  refine z_iload_n rfl rfl ?_
  refine z_bipush rfl rfl ?_
  refine z_iadd rfl ?_
  refine z_dup2 rfl rfl rfl ?_
  refine z_iaload rfl kd_77 ?_
  refine z_iconst rfl rfl ?_
  refine z_iadd rfl ?_
  refine z_iastoreL kd_77 rfl (fun h6 => ?_)
  refine z_aload_n rfl rfl ?_
  refine z_getRn (m := 77) rfl fl_X5_7 rfl kd_76 rfl ?_
  refine z_iload_n rfl rfl ?_
  refine z_bipush rfl rfl ?_
  refine z_iadd rfl ?_
  refine z_dup2 rfl rfl rfl ?_
  refine z_iaload rfl kd_77 ?_
  refine z_iload rfl rfl ?_
  refine z_iadd rfl ?_
  refine z_iastoreL kd_77 rfl (fun h7 => ?_)
  exact z_return rfl rfl
set_option maxRecDepth 20000 in
set_option maxHeartbeats 1000000 in
theorem t_X5_writes_L12 (x1 : Int) (x2 : Int) (x3 : Int) (x4 : Int) (c31 : Hp → Option (Int × Hp)) (hc31 : ∀ (h : Hp), Z M_X5_writes 31 [some (vr 76), some (vi x1), some (vi x2), some (vi x3), some (vi x4), none] [] h (c31  h)) : ∀ (n : Nat) (x5 : Int) (h : Hp), Z M_X5_writes 12 [some (vr 76), some (vi x1), some (vi x2), some (vi x3), some (vi x4), some (vi x5)] [] h (f_X5_writes_L12 x1 x2 x3 x4 c31 n x5 h) := by
  intro n
  induction n with
  | zero => intro x5 h; exact Z.nix
  | succ n ih =>
    intro x5 h
    rw [f_X5_writes_L12_s]
    refine z_iload rfl rfl ?_
    refine z_iload_n rfl rfl ?_
    refine z_sipush rfl rfl ?_
    refine z_iadd rfl ?_
    refine z_bipush rfl rfl ?_
    refine z_iadd rfl ?_
    refine z_icmp_ge rfl ?_ ?_
    · refine Z.weak ?_ (hc31 _)
      exact wkL_c (wkL_c (wkL_c (wkL_c (wkL_c (wkL_n (wkL_nil _))))))
    · refine z_aload_n rfl rfl ?_
      refine z_getRn (m := 77) rfl fl_X5_7 rfl kd_76 rfl ?_
      refine z_iload rfl rfl ?_
      refine z_aload_n rfl rfl ?_
      refine z_getRn (m := 77) rfl fl_X5_7 rfl kd_76 rfl ?_
      refine z_iload rfl rfl ?_
      refine z_iconst rfl rfl ?_
      refine z_iadd rfl ?_
      refine z_iaload rfl kd_77 ?_
      refine z_iastoreL kd_77 rfl (fun h9 => ?_)
      refine z_iinc rfl rfl rfl ?_
      refine z_goto rfl ?_
      refine Z.weak ?_ (ih _ _)
      exact wkL_c (wkL_c (wkL_c (wkL_c (wkL_c (wkL_c (wkL_nil _))))))
set_option maxRecDepth 20000 in
set_option maxHeartbeats 1000000 in
theorem t_X5_writes (x1 : Int) (x2 : Int) (x3 : Int) (x4 : Int) (h : Hp) : Ct M_X5_writes [vr 76, vi x1, vi x2, vi x3, vi x4] h (f_X5_writes x1 x2 x3 x4 h) := by
  refine Ct.mk ok_X5_writes pl_X5_writes rfl rfl ?_
  show Z M_X5_writes 0 [some (vr 76), some (vi x1), some (vi x2), some (vi x3), some (vi x4), none] [] h (f_X5_writes x1 x2 x3 x4 h)
  unfold f_X5_writes
  refine z_aload_n rfl rfl ?_
  refine z_getRn (m := 77) rfl fl_X5_7 rfl kd_76 rfl ?_
  refine z_iload_n rfl rfl ?_
  refine z_bipush rfl rfl ?_
  refine z_iadd rfl ?_
  refine z_iaload rfl kd_77 ?_
  refine z_bipush rfl rfl ?_
  refine z_icmp_ne rfl ?_ ?_
  · refine Z.weak ?_ (t_X5_writes_J41  _ _ _ _  _)
    exact wkL_c (wkL_c (wkL_c (wkL_c (wkL_c (wkL_n (wkL_nil _))))))
  · refine z_iload_n rfl rfl ?_
    refine z_sipush rfl rfl ?_
    refine z_iadd rfl ?_
    refine z_istoreL rfl rfl (fun y8 => ?_)
    refine Z.weak ?_ (t_X5_writes_L12  _ _ _ _  _  ?_  fu _ _)
    · exact wkL_c (wkL_c (wkL_c (wkL_c (wkL_c (wkL_c (wkL_nil _))))))
    · intro h10
      refine z_aload_n rfl rfl ?_
      refine z_getRn (m := 77) rfl fl_X5_7 rfl kd_76 rfl ?_
      refine z_iload_n rfl rfl ?_
      refine z_bipush rfl rfl ?_
      refine z_iadd rfl ?_
      refine z_dup2 rfl rfl rfl ?_
      refine z_iaload rfl kd_77 ?_
      refine z_iconst rfl rfl ?_
      refine z_isub rfl ?_
      refine z_iastoreL kd_77 rfl (fun h11 => ?_)
      refine Z.weak ?_ (t_X5_writes_J41  _ _ _ _  _)
      exact wkL_c (wkL_c (wkL_c (wkL_c (wkL_c (wkL_n (wkL_nil _))))))
