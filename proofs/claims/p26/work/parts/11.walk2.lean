/-! printed by wip/gen/gen26.py: the bytecode does what the functions say -/
set_option maxRecDepth 20000 in
set_option maxHeartbeats 1000000 in
theorem t_X0_noteOddness_L2 (x1 : Nat) (k1 : kd x1 = (1, 0)) (c14 : Hp → Option (Int × Hp)) (hc14 : ∀ (h : Hp), Z M_X0_noteOddness 0 0 14 [some (vr 19), some (vr x1), none, none, none] [] h (c14  h)) : ∀ (n : Nat) (x2 : Int) (h : Hp), Z M_X0_noteOddness 0 0 2 [some (vr 19), some (vr x1), some (vi x2), none, none] [] h (f_X0_noteOddness_L2 x1 c14 n x2 h) := by
  intro n
  induction n with
  | zero => intro x2 h; exact Z.nix
  | succ n ih =>
    intro x2 h
    rw [f_X0_noteOddness_L2_s]
    refine z_iload_n rfl rfl ?_
    refine z_aload_n rfl rfl ?_
    refine z_getRn (m := 24) rfl fl_X0_25 rfl kd_19 rfl ?_
    refine z_alen (c := 0) rfl kd_24 (by omega) ?_
    refine z_icmp_ge rfl ?_ ?_
    · refine Z.weak ?_ (hc14 _)
      exact wkL_c (wkL_c (wkL_n (wkL_n (wkL_n (wkL_nil _)))))
    · refine z_aload_n rfl rfl ?_
      refine z_getRn (m := 24) rfl fl_X0_25 rfl kd_19 rfl ?_
      refine z_iload_n rfl rfl ?_
      refine z_bipush rfl rfl ?_
      refine z_iastoreL kd_24 rfl (fun h1 => ?_)
      refine z_iinc rfl rfl rfl ?_
      refine z_goto rfl ?_
      refine Z.weak ?_ (ih _ _)
      exact wkL_c (wkL_c (wkL_c (wkL_n (wkL_n (wkL_nil _)))))
set_option maxRecDepth 20000 in
set_option maxHeartbeats 1000000 in
theorem t_X0_noteOddness_L22 (x1 : Nat) (k1 : kd x1 = (1, 0)) (x2 : Int) (c52 : Hp → Option (Int × Hp)) (hc52 : ∀ (h : Hp), Z M_X0_noteOddness 0 0 52 [some (vr 19), some (vr x1), some (vi x2), none, none] [] h (c52  h)) : ∀ (n : Nat) (x3 : Int) (h : Hp), Z M_X0_noteOddness 0 0 22 [some (vr 19), some (vr x1), some (vi x2), some (vi x3), none] [] h (f_X0_noteOddness_L22 x1 x2 c52 n x3 h) := by
  intro n
  induction n with
  | zero => intro x3 h; exact Z.nix
  | succ n ih =>
    intro x3 h
    rw [f_X0_noteOddness_L22_s]
    refine z_iload_n rfl rfl ?_
    refine z_iconst rfl rfl ?_
    refine z_icmp_ge rfl ?_ ?_
    · refine Z.weak ?_ (hc52 _)
      exact wkL_c (wkL_c (wkL_c (wkL_n (wkL_n (wkL_nil _)))))
    · refine z_iload_n rfl rfl ?_
      refine z_bipush rfl rfl ?_
      refine z_imul rfl ?_
      refine z_aload_n rfl rfl ?_
      refine z_getR rfl fl_X0_44 rfl k1 ?_
      refine z_iload_n rfl rfl ?_
      refine z_iload_n rfl rfl ?_
      refine z_V2i ko2 mv_X0_70 (kO_1 k1) (t_X2_cell (x1 + 1) (kO_1 k1) _ _ _) rfl rfl rfl rfl rfl rfl (fun r3 h3 => ?_)
      refine z_iadd rfl ?_
      refine z_istoreL rfl rfl (fun y4 => ?_)
      refine z_iload rfl rfl ?_
      refine z_if_lt rfl ?_ ?_
      · refine z_iinc rfl rfl rfl ?_
        refine z_goto rfl ?_
        refine Z.weak ?_ (ih _ _)
        exact wkL_c (wkL_c (wkL_c (wkL_c (wkL_n (wkL_nil _)))))
      · refine z_iload rfl rfl ?_
        refine z_aload_n rfl rfl ?_
        refine z_getRn (m := 24) rfl fl_X0_25 rfl kd_19 rfl ?_
        refine z_alen (c := 0) rfl kd_24 (by omega) ?_
        refine z_icmp_ge rfl ?_ ?_
        · refine z_iinc rfl rfl rfl ?_
          refine z_goto rfl ?_
          refine Z.weak ?_ (ih _ _)
          exact wkL_c (wkL_c (wkL_c (wkL_c (wkL_n (wkL_nil _)))))
        · refine z_aload_n rfl rfl ?_
          refine z_getRn (m := 24) rfl fl_X0_25 rfl kd_19 rfl ?_
          refine z_iload rfl rfl ?_
          refine z_dup2 rfl rfl rfl ?_
          refine z_iaload rfl kd_24 ?_
          refine z_iconst rfl rfl ?_
          refine z_isub rfl ?_
          refine z_iastoreL kd_24 rfl (fun h5 => ?_)
          refine z_iinc rfl rfl rfl ?_
          refine z_goto rfl ?_
          refine Z.weak ?_ (ih _ _)
          exact wkL_c (wkL_c (wkL_c (wkL_c (wkL_n (wkL_nil _)))))
set_option maxRecDepth 20000 in
set_option maxHeartbeats 1000000 in
theorem t_X0_noteOddness_L16 (x1 : Nat) (k1 : kd x1 = (1, 0)) : ∀ (n : Nat) (x2 : Int) (h : Hp), Z M_X0_noteOddness 0 0 16 [some (vr 19), some (vr x1), some (vi x2), none, none] [] h (f_X0_noteOddness_L16 x1 n x2 h) := by
  intro n
  induction n with
  | zero => intro x2 h; exact Z.nix
  | succ n ih =>
    intro x2 h
    rw [f_X0_noteOddness_L16_s]
    refine z_iload_n rfl rfl ?_
    refine z_aload_n rfl rfl ?_
    refine z_getI rfl fl_X0_34 rfl kd_19 ?_
    refine z_icmp_ge rfl ?_ ?_
    · exact z_return rfl rfl
    · refine z_iconst rfl rfl ?_
      refine z_istore_n rfl rfl ?_
      refine Z.weak ?_ (t_X0_noteOddness_L22 x1 k1 _  _  ?_  fu _ _)
      · exact wkL_c (wkL_c (wkL_c (wkL_c (wkL_n (wkL_nil _)))))
      · intro h6
        refine z_iinc rfl rfl rfl ?_
        refine z_goto rfl ?_
        refine Z.weak ?_ (ih _ _)
        exact wkL_c (wkL_c (wkL_c (wkL_n (wkL_n (wkL_nil _)))))
set_option maxRecDepth 20000 in
set_option maxHeartbeats 1000000 in
theorem t_X0_noteOddness (x1 : Nat) (k1 : kd x1 = (1, 0)) (h : Hp) : Ct M_X0_noteOddness [vr 19, vr x1] h (f_X0_noteOddness x1 h) := by
  refine Ct.mk ok_X0_noteOddness pl_X0_noteOddness rfl rfl ?_
  show Z M_X0_noteOddness 0 0 0 [some (vr 19), some (vr x1), none, none, none] [] h (f_X0_noteOddness x1 h)
  unfold f_X0_noteOddness
  refine z_iconst rfl rfl ?_
  refine z_istore_n rfl rfl ?_
  refine Z.weak ?_ (t_X0_noteOddness_L2 x1 k1  _  ?_  fu _ _)
  · exact wkL_c (wkL_c (wkL_c (wkL_n (wkL_n (wkL_nil _)))))
  · intro h2
    refine z_iconst rfl rfl ?_
    refine z_istore_n rfl rfl ?_
    refine Z.weak ?_ (t_X0_noteOddness_L16 x1 k1     fu _ _)
    · exact wkL_c (wkL_c (wkL_c (wkL_n (wkL_n (wkL_nil _)))))
set_option maxRecDepth 20000 in
set_option maxHeartbeats 1000000 in
theorem t_X4_numberAt (x0 : Nat) (n0 : Nat) (k0 : kd x0 = (10, n0) ∨ kd x0 = (30, n0)) (x1 : Int) (h : Hp) : Ct M_X4_numberAt [vr x0, vi x1] h (f_X4_numberAt x0 n0 x1 h) := by
  refine Ct.mk ok_X4_numberAt pl_X4_numberAt rfl rfl ?_
  show Z M_X4_numberAt 0 0 0 [some (vr x0), some (vi x1)] [] h (f_X4_numberAt x0 n0 x1 h)
  unfold f_X4_numberAt
  refine z_iload_n rfl rfl ?_
  refine z_if_lt rfl ?_ ?_
  · refine z_iconst rfl rfl ?_
    exact z_ireturn rfl rfl
  · refine z_iload_n rfl rfl ?_
    refine z_aload_n rfl rfl ?_
    refine z_alenX k0 rfl ?_
    refine z_icmp_ge rfl ?_ ?_
    · refine z_iconst rfl rfl ?_
      exact z_ireturn rfl rfl
    · refine z_aload_n rfl rfl ?_
      refine z_iload_n rfl rfl ?_
      refine z_ialoadX k0 rfl ?_
      refine z_goto rfl ?_
      exact z_ireturn rfl rfl
set_option maxRecDepth 20000 in
set_option maxHeartbeats 1000000 in
theorem t_X1_setting (x0 : Nat) (k0 : kd x0 = (1, 0)) (x1 : Int) (h : Hp) : Ct M_X1_setting [vr x0, vi x1] h (f_X1_setting x0 x1 h) := by
  refine Ct.mk ok_X1_setting pl_X1_setting rfl rfl ?_
  show Z M_X1_setting 0 0 0 [some (vr x0), some (vi x1)] [] h (f_X1_setting x0 x1 h)
  unfold f_X1_setting
  refine z_iload_n rfl rfl ?_
  refine z_if_lt rfl ?_ ?_
  · refine z_iconst rfl rfl ?_
    exact z_ireturn rfl rfl
  · refine z_iload_n rfl rfl ?_
    refine z_aload_n rfl rfl ?_
    refine z_getR rfl fl_X1_24 rfl k0 ?_
    refine z_alen (c := 0) rfl (kO_7 k0) (by omega) ?_
    refine z_icmp_ge rfl ?_ ?_
    · refine z_iconst rfl rfl ?_
      exact z_ireturn rfl rfl
    · refine z_aload_n rfl rfl ?_
      refine z_getR rfl fl_X1_24 rfl k0 ?_
      refine z_iload_n rfl rfl ?_
      refine z_iaload rfl (kO_7 k0) ?_
      refine z_goto rfl ?_
      exact z_ireturn rfl rfl
set_option maxRecDepth 20000 in
set_option maxHeartbeats 1000000 in
theorem t_X0_weigh_L6 (x3 : Nat) (k3 : kd x3 = (1, 0)) (x1 : Int) (x2 : Int) (c40 : Int → Int → Hp → Option (Int × Hp)) (hc40 : ∀ (y4 : Int) (y5 : Int) (h : Hp), Z M_X0_weigh 0 0 40 [some (vr 19), some (vi x1), some (vi x2), some (vr x3), some (vi y4), some (vi y5), none, none] [] h (c40 y4 y5 h)) : ∀ (n : Nat) (x4 : Int) (x5 : Int) (x6 : Int) (h : Hp), Z M_X0_weigh 0 0 6 [some (vr 19), some (vi x1), some (vi x2), some (vr x3), some (vi x4), some (vi x5), some (vi x6), none] [] h (f_X0_weigh_L6 x3 x1 x2 c40 n x4 x5 x6 h) := by
  intro n
  induction n with
  | zero => intro x4 x5 x6 h; exact Z.nix
  | succ n ih =>
    intro x4 x5 x6 h
    rw [f_X0_weigh_L6_s]
    refine z_iload rfl rfl ?_
    refine z_iconst rfl rfl ?_
    refine z_icmp_ge rfl ?_ ?_
    · refine Z.weak ?_ (hc40 _ _ _)
      exact wkL_c (wkL_c (wkL_c (wkL_c (wkL_c (wkL_c (wkL_n (wkL_n (wkL_nil _))))))))
    · refine z_aload_n rfl rfl ?_
      refine z_getR rfl fl_X0_60 rfl k3 ?_
      refine z_iload_n rfl rfl ?_
      refine z_iload rfl rfl ?_
      refine z_V2i ko2 mv_X0_70 (kO_3 k3) (t_X2_cell (x3 + 3) (kO_3 k3) _ _ _) rfl rfl rfl rfl rfl rfl (fun r1 h1 => ?_)
      refine z_istore rfl rfl ?_
      refine z_iload rfl rfl ?_
      refine z_aload_n rfl rfl ?_
      refine z_getR rfl fl_X0_44 rfl k3 ?_
      refine z_iload_n rfl rfl ?_
      refine z_iload rfl rfl ?_
      refine z_V2i ko2 mv_X0_70 (kO_1 k3) (t_X2_cell (x3 + 1) (kO_1 k3) _ _ _) rfl rfl rfl rfl rfl rfl (fun r2 h2 => ?_)
      refine z_icmp_ne rfl ?_ ?_
      · refine z_iload rfl rfl ?_
        refine z_iconst rfl rfl ?_
        refine z_icmp_eq rfl ?_ ?_
        · refine z_iinc rfl rfl rfl ?_
          refine z_goto rfl ?_
          refine Z.weak ?_ (ih _ _ _ _)
          exact wkL_c (wkL_c (wkL_c (wkL_c (wkL_c (wkL_c (wkL_c (wkL_n (wkL_nil _))))))))
        · refine z_iinc rfl rfl rfl ?_
          refine z_iinc rfl rfl rfl ?_
          refine z_goto rfl ?_
          refine Z.weak ?_ (ih _ _ _ _)
          exact wkL_c (wkL_c (wkL_c (wkL_c (wkL_c (wkL_c (wkL_c (wkL_n (wkL_nil _))))))))
      · refine z_iload rfl rfl ?_
        refine z_aload_n rfl rfl ?_
        refine z_getRn (m := 24) rfl fl_X0_25 rfl kd_19 rfl ?_
        refine z_iload rfl rfl ?_
        refine z_bipush rfl rfl ?_
        refine z_imul rfl ?_
        refine z_iload rfl rfl ?_
        refine z_iadd rfl ?_
        refine z_N2i mn_X0_73 (t_X4_numberAt 24 40 (Or.inl kd_24) _ _) rfl rfl rfl rfl rfl (fun r3 h3 => ?_)
        refine z_iadd rfl ?_
        refine z_istoreL rfl rfl (fun y4 => ?_)
        refine z_goto rfl ?_
        refine z_iinc rfl rfl rfl ?_
        refine z_goto rfl ?_
        refine Z.weak ?_ (ih _ _ _ _)
        exact wkL_c (wkL_c (wkL_c (wkL_c (wkL_c (wkL_c (wkL_c (wkL_n (wkL_nil _))))))))
set_option maxRecDepth 20000 in
set_option maxHeartbeats 1000000 in
theorem t_X0_weigh (x1 : Int) (x2 : Int) (x3 : Nat) (k3 : kd x3 = (1, 0)) (h : Hp) : Ct M_X0_weigh [vr 19, vi x1, vi x2, vr x3] h (f_X0_weigh x1 x2 x3 h) := by
  refine Ct.mk ok_X0_weigh pl_X0_weigh rfl rfl ?_
  show Z M_X0_weigh 0 0 0 [some (vr 19), some (vi x1), some (vi x2), some (vr x3), none, none, none, none] [] h (f_X0_weigh x1 x2 x3 h)
  unfold f_X0_weigh
  refine z_iconst rfl rfl ?_
  refine z_istore rfl rfl ?_
  refine z_iconst rfl rfl ?_
  refine z_istore rfl rfl ?_
  refine z_iconst rfl rfl ?_
  refine z_istore rfl rfl ?_
  refine Z.weak ?_ (t_X0_weigh_L6 x3 k3 _ _  _  ?_  fu _ _ _ _)
  · exact wkL_c (wkL_c (wkL_c (wkL_c (wkL_c (wkL_c (wkL_c (wkL_n (wkL_nil _))))))))
  · intro y5 y6 h7
    refine z_iload rfl rfl ?_
    refine z_iload rfl rfl ?_
    refine z_aload_n rfl rfl ?_
    refine z_iconst rfl rfl ?_
    refine z_V1i ko1 mv_X0_77 k3 (t_X1_setting x3 k3 _ _) rfl rfl rfl rfl rfl rfl (fun r8 h8 => ?_)
    refine z_imul rfl ?_
    refine z_isub rfl ?_
    refine z_aload_n rfl rfl ?_
    refine z_getR rfl fl_X0_60 rfl k3 ?_
    refine z_iload_n rfl rfl ?_
    refine z_iconst rfl rfl ?_
    refine z_V2i ko2 mv_X0_70 (kO_3 k3) (t_X2_cell (x3 + 3) (kO_3 k3) _ _ _) rfl rfl rfl rfl rfl rfl (fun r9 h9 => ?_)
    refine z_aload_n rfl rfl ?_
    refine z_iconst rfl rfl ?_
    refine z_V1i ko1 mv_X0_77 k3 (t_X1_setting x3 k3 _ _) rfl rfl rfl rfl rfl rfl (fun r10 h10 => ?_)
    refine z_imul rfl ?_
    refine z_isub rfl ?_
    refine z_istoreL rfl rfl (fun y11 => ?_)
    refine z_aload_n rfl rfl ?_
    refine z_iload_n rfl rfl ?_
    refine z_iload_n rfl rfl ?_
    refine z_V2i ko0 mv_X0_81 kd_19 (t_X0_pairOf _ _ _) rfl rfl rfl rfl rfl rfl (fun r12 h12 => ?_)
    refine z_istore rfl rfl ?_
    refine z_iload rfl rfl ?_
    refine z_if_lt rfl ?_ ?_
    · exact z_return rfl rfl
    · refine z_iload rfl rfl ?_
      refine z_sipush rfl rfl ?_
      refine z_icmp_ge rfl ?_ ?_
      · exact z_return rfl rfl
      · refine z_aload_n rfl rfl ?_
        refine z_getRn (m := 20) rfl fl_X0_9 rfl kd_19 rfl ?_
        refine z_iload rfl rfl ?_
        refine z_iload rfl rfl ?_
        refine z_iastoreL kd_20 rfl (fun h13 => ?_)
        refine z_aload_n rfl rfl ?_
        refine z_getRn (m := 21) rfl fl_X0_15 rfl kd_19 rfl ?_
        refine z_iload rfl rfl ?_
        refine z_iload rfl rfl ?_
        refine z_iastoreL kd_21 rfl (fun h14 => ?_)
        refine z_aload_n rfl rfl ?_
        refine z_getRn (m := 22) rfl fl_X0_18 rfl kd_19 rfl ?_
        refine z_iload rfl rfl ?_
        refine z_iload rfl rfl ?_
        refine z_aload_n rfl rfl ?_
        refine z_iconst rfl rfl ?_
        refine z_V1i ko1 mv_X0_77 k3 (t_X1_setting x3 k3 _ _) rfl rfl rfl rfl rfl rfl (fun r15 h15 => ?_)
        refine z_icmp_gt rfl ?_ ?_
        · refine z_iconst rfl rfl ?_
          refine z_bastoreL kd_22 rfl (fun h16 => ?_)
          exact z_return rfl rfl
        · refine z_iload rfl rfl ?_
          refine z_aload_n rfl rfl ?_
          refine z_iconst rfl rfl ?_
          refine z_V1i ko1 mv_X0_77 k3 (t_X1_setting x3 k3 _ _) rfl rfl rfl rfl rfl rfl (fun r17 h17 => ?_)
          refine z_icmp_lt rfl ?_ ?_
          · refine z_iconst rfl rfl ?_
            refine z_bastoreL kd_22 rfl (fun h18 => ?_)
            exact z_return rfl rfl
          · refine z_iconst rfl rfl ?_
            refine z_goto rfl ?_
            refine z_bastoreL kd_22 rfl (fun h19 => ?_)
            exact z_return rfl rfl
set_option maxRecDepth 20000 in
set_option maxHeartbeats 1000000 in
theorem t_X0_weighAll_L25 (x1 : Nat) (k1 : kd x1 = (1, 0)) (x2 : Int) (c36 : Hp → Option (Int × Hp)) (hc36 : ∀ (h : Hp), Z M_X0_weighAll 0 0 36 [some (vr 19), some (vr x1), some (vi x2), none] [] h (c36  h)) : ∀ (n : Nat) (x3 : Int) (h : Hp), Z M_X0_weighAll 0 0 25 [some (vr 19), some (vr x1), some (vi x2), some (vi x3)] [] h (f_X0_weighAll_L25 x1 x2 c36 n x3 h) := by
  intro n
  induction n with
  | zero => intro x3 h; exact Z.nix
  | succ n ih =>
    intro x3 h
    rw [f_X0_weighAll_L25_s]
    refine z_iload_n rfl rfl ?_
    refine z_aload_n rfl rfl ?_
    refine z_getI rfl fl_X0_38 rfl kd_19 ?_
    refine z_icmp_ge rfl ?_ ?_
    · refine Z.weak ?_ (hc36 _)
      exact wkL_c (wkL_c (wkL_c (wkL_n (wkL_nil _))))
    · refine z_aload_n rfl rfl ?_
      refine z_iload_n rfl rfl ?_
      refine z_iload_n rfl rfl ?_
      refine z_aload_n rfl rfl ?_
      refine z_V3v ko0 mv_X0_66 kd_19 (t_X0_weigh _ _ x1 k1 _) rfl rfl rfl rfl rfl (fun _ h6 => ?_)
      refine z_iinc rfl rfl rfl ?_
      refine z_goto rfl ?_
      refine Z.weak ?_ (ih _ _)
      exact wkL_c (wkL_c (wkL_c (wkL_c (wkL_nil _))))
set_option maxRecDepth 20000 in
set_option maxHeartbeats 1000000 in
theorem t_X0_weighAll_L19 (x1 : Nat) (k1 : kd x1 = (1, 0)) : ∀ (n : Nat) (x2 : Int) (h : Hp), Z M_X0_weighAll 0 0 19 [some (vr 19), some (vr x1), some (vi x2), none] [] h (f_X0_weighAll_L19 x1 n x2 h) := by
  intro n
  induction n with
  | zero => intro x2 h; exact Z.nix
  | succ n ih =>
    intro x2 h
    rw [f_X0_weighAll_L19_s]
    refine z_iload_n rfl rfl ?_
    refine z_aload_n rfl rfl ?_
    refine z_getI rfl fl_X0_34 rfl kd_19 ?_
    refine z_icmp_ge rfl ?_ ?_
    · exact z_return rfl rfl
    · refine z_iconst rfl rfl ?_
      refine z_istore_n rfl rfl ?_
      refine Z.weak ?_ (t_X0_weighAll_L25 x1 k1 _  _  ?_  fu _ _)
      · exact wkL_c (wkL_c (wkL_c (wkL_c (wkL_nil _))))
      · intro h7
        refine z_iinc rfl rfl rfl ?_
        refine z_goto rfl ?_
        refine Z.weak ?_ (ih _ _)
        exact wkL_c (wkL_c (wkL_c (wkL_n (wkL_nil _))))
set_option maxRecDepth 20000 in
set_option maxHeartbeats 1000000 in
theorem t_X0_weighAll (x1 : Nat) (k1 : kd x1 = (1, 0)) (h : Hp) : Ct M_X0_weighAll [vr 19, vr x1] h (f_X0_weighAll x1 h) := by
  refine Ct.mk ok_X0_weighAll pl_X0_weighAll rfl rfl ?_
  show Z M_X0_weighAll 0 0 0 [some (vr 19), some (vr x1), none, none] [] h (f_X0_weighAll x1 h)
  unfold f_X0_weighAll
  refine z_aload_n rfl rfl ?_
  refine z_aload_n rfl rfl ?_
  refine z_getR rfl fl_X0_44 rfl k1 ?_
  refine z_getI rfl fl_X0_49 rfl (kO_1 k1) ?_
  refine z_bipush rfl rfl ?_
  refine z_S2i ms_X0_54 (t_J_min _ _ _) rfl rfl rfl rfl rfl (fun r1 h1 => ?_)
  refine z_putL fi_X0_34 rfl kd_19 rfl (fun h2 => ?_)
  refine z_aload_n rfl rfl ?_
  refine z_aload_n rfl rfl ?_
  refine z_getR rfl fl_X0_60 rfl k1 ?_
  refine z_getI rfl fl_X0_49 rfl (kO_3 k1) ?_
  refine z_bipush rfl rfl ?_
  refine z_S2i ms_X0_54 (t_J_min _ _ _) rfl rfl rfl rfl rfl (fun r3 h3 => ?_)
  refine z_putL fi_X0_38 rfl kd_19 rfl (fun h4 => ?_)
  refine z_aload_n rfl rfl ?_
  refine z_aload_n rfl rfl ?_
  refine z_V1v ko0 mv_X0_62 kd_19 (t_X0_noteOddness x1 k1 _) rfl rfl rfl rfl rfl (fun _ h5 => ?_)
  refine z_iconst rfl rfl ?_
  refine z_istore_n rfl rfl ?_
  refine Z.weak ?_ (t_X0_weighAll_L19 x1 k1     fu _ _)
  · exact wkL_c (wkL_c (wkL_c (wkL_n (wkL_nil _))))
set_option maxRecDepth 20000 in
set_option maxHeartbeats 1000000 in
theorem t_X0_matchAll_L7 (x1 : Nat) (k1 : kd x1 = (1, 0)) : ∀ (n : Nat) (x2 : Int) (h : Hp), Z M_X0_matchAll 0 0 7 [some (vr 19), none, some (vi x2), none] [] h (f_X0_matchAll_L7 x1 n x2 h) := by
  intro n
  induction n with
  | zero => intro x2 h; exact Z.nix
  | succ n ih =>
    intro x2 h
    rw [f_X0_matchAll_L7_s]
    refine z_iload_n rfl rfl ?_
    refine z_bipush rfl rfl ?_
    refine z_icmp_ge rfl ?_ ?_
    · exact z_return rfl rfl
    · refine z_aload_n rfl rfl ?_
      refine z_V0i ko0 mv_X0_94 kd_19 (t_X0_bestFreePair  _) rfl rfl rfl rfl rfl rfl (fun r3 h3 => ?_)
      refine z_istore_n rfl rfl ?_
      refine z_iload_n rfl rfl ?_
      refine z_iconst rfl rfl ?_
      refine z_icmp_ne rfl ?_ ?_
      · refine z_aload_n rfl rfl ?_
        refine z_iload_n rfl rfl ?_
        refine z_bipush rfl rfl ?_
        refine z_idiv rfl rfl ?_
        refine z_iload_n rfl rfl ?_
        refine z_bipush rfl rfl ?_
        refine z_irem rfl rfl ?_
        refine z_V2v ko0 mv_X0_98 kd_19 (t_X0_join _ _ _) rfl rfl rfl rfl rfl (fun _ h4 => ?_)
        refine z_iinc rfl rfl rfl ?_
        refine z_goto rfl ?_
        refine Z.weak ?_ (ih _ _)
        exact wkL_c (wkL_n (wkL_c (wkL_n (wkL_nil _))))
      · exact z_return rfl rfl
set_option maxRecDepth 20000 in
set_option maxHeartbeats 1000000 in
theorem t_X0_matchAll (x1 : Nat) (k1 : kd x1 = (1, 0)) (h : Hp) : Ct M_X0_matchAll [vr 19, vr x1] h (f_X0_matchAll x1 h) := by
  refine Ct.mk ok_X0_matchAll pl_X0_matchAll rfl rfl ?_
  show Z M_X0_matchAll 0 0 0 [some (vr 19), some (vr x1), none, none] [] h (f_X0_matchAll x1 h)
  unfold f_X0_matchAll
  refine z_aload_n rfl rfl ?_
  refine z_aload_n rfl rfl ?_
  refine z_V1v ko0 mv_X0_88 kd_19 (t_X0_weighAll x1 k1 _) rfl rfl rfl rfl rfl (fun _ h1 => ?_)
  refine z_aload_n rfl rfl ?_
  refine z_V0v ko0 mv_X0_91 kd_19 (t_X0_matchNone  _) rfl rfl rfl rfl rfl (fun _ h2 => ?_)
  refine z_iconst rfl rfl ?_
  refine z_istore_n rfl rfl ?_
  refine Z.weak ?_ (t_X0_matchAll_L7 x1 k1     fu _ _)
  · exact wkL_c (wkL_n (wkL_c (wkL_n (wkL_nil _))))
set_option maxRecDepth 20000 in
set_option maxHeartbeats 1000000 in
theorem t_X1_sum (x0 : Nat) (k0 : kd x0 = (1, 0)) (x1 : Int) (h : Hp) : Ct M_X1_sum [vr x0, vi x1] h (f_X1_sum x0 x1 h) := by
  refine Ct.mk ok_X1_sum pl_X1_sum rfl rfl ?_
  show Z M_X1_sum 0 0 0 [some (vr x0), some (vi x1)] [] h (f_X1_sum x0 x1 h)
  unfold f_X1_sum
  refine z_iload_n rfl rfl ?_
  refine z_if_lt rfl ?_ ?_
  · refine z_iconst rfl rfl ?_
    exact z_ireturn rfl rfl
  · refine z_iload_n rfl rfl ?_
    refine z_aload_n rfl rfl ?_
    refine z_getR rfl fl_X1_28 rfl k0 ?_
    refine z_alen (c := 0) rfl (kO_8 k0) (by omega) ?_
    refine z_icmp_ge rfl ?_ ?_
    · refine z_iconst rfl rfl ?_
      exact z_ireturn rfl rfl
    · refine z_aload_n rfl rfl ?_
      refine z_getR rfl fl_X1_28 rfl k0 ?_
      refine z_iload_n rfl rfl ?_
      refine z_iaload rfl (kO_8 k0) ?_
      refine z_goto rfl ?_
      exact z_ireturn rfl rfl
set_option maxRecDepth 20000 in
set_option maxHeartbeats 1000000 in
theorem t_X1_enter_J9 (x0 : Nat) (k0 : kd x0 = (1, 0)) (x1 : Int) (x2 : Int) (x3 : Int) (h : Hp) : Z M_X1_enter 0 0 9 [some (vr x0), some (vi x1), some (vi x2), some (vi x3)] [] h (f_X1_enter_J9 x0 x1 x2 x3 h) := by
  unfold f_X1_enter_J9
  refine z_aload_n rfl rfl ?_
  refine z_getR rfl fl_X1_21 rfl k0 ?_
  refine z_aload_n rfl rfl ?_
  refine z_iconst rfl rfl ?_
  refine z_V1i ko1 mv_X1_100 k0 (t_X1_sum x0 k0 _ _) rfl rfl rfl rfl rfl rfl (fun r1 h1 => ?_)
  refine z_iload_n rfl rfl ?_
  refine z_iload_n rfl rfl ?_
  refine z_iload_n rfl rfl ?_
  refine z_V4i ko2 mv_X1_65 (kO_5 k0) (t_X2_append (x0 + 5) (kO_5 k0) _ _ _ _ _) rfl rfl rfl rfl rfl rfl (fun r2 h2 => ?_)
  refine z_pop rfl rfl ?_
  refine z_aload_n rfl rfl ?_
  refine z_bipush rfl rfl ?_
  refine z_iload_n rfl rfl ?_
  refine z_V2v ko1 mv_X1_61 k0 (t_X1_addTo x0 k0 _ _ _) rfl rfl rfl rfl rfl (fun _ h3 => ?_)
  exact z_return rfl rfl
set_option maxRecDepth 20000 in
set_option maxHeartbeats 1000000 in
theorem t_X1_enter (x0 : Nat) (k0 : kd x0 = (1, 0)) (x1 : Int) (x2 : Int) (x3 : Int) (h : Hp) : Ct M_X1_enter [vr x0, vi x1, vi x2, vi x3] h (f_X1_enter x0 x1 x2 x3 h) := by
  refine Ct.mk ok_X1_enter pl_X1_enter rfl rfl ?_
  show Z M_X1_enter 0 0 0 [some (vr x0), some (vi x1), some (vi x2), some (vi x3)] [] h (f_X1_enter x0 x1 x2 x3 h)
  unfold f_X1_enter
  refine z_aload_n rfl rfl ?_
  refine z_getR rfl fl_X1_21 rfl k0 ?_
  refine z_getI rfl fl_X1_44 rfl (kO_5 k0) ?_
  refine z_bipush rfl rfl ?_
  refine z_icmp_lt rfl ?_ ?_
  · refine Z.weak ?_ (t_X1_enter_J9 x0 k0 _ _ _  _)
    exact wkL_c (wkL_c (wkL_c (wkL_c (wkL_nil _))))
  · refine z_aload_n rfl rfl ?_
    refine z_getR rfl fl_X1_21 rfl k0 ?_
    refine z_iconst rfl rfl ?_
    refine z_V1v ko2 mv_X1_83 (kO_5 k0) (t_X2_remove (x0 + 5) (kO_5 k0) _ _) rfl rfl rfl rfl rfl (fun _ h4 => ?_)
    refine Z.weak ?_ (t_X1_enter_J9 x0 k0 _ _ _  _)
    exact wkL_c (wkL_c (wkL_c (wkL_c (wkL_nil _))))
set_option maxRecDepth 20000 in
set_option maxHeartbeats 1000000 in
theorem t_X1_handOut_L2 (x0 : Nat) (k0 : kd x0 = (1, 0)) (c33 : Hp → Option (Int × Hp)) (hc33 : ∀ (h : Hp), Z M_X1_handOut 0 0 33 [some (vr x0), some (vr 19), none, none] [] h (c33  h)) : ∀ (n : Nat) (x2 : Int) (h : Hp), Z M_X1_handOut 0 0 2 [some (vr x0), some (vr 19), some (vi x2), none] [] h (f_X1_handOut_L2 x0 c33 n x2 h) := by
  intro n
  induction n with
  | zero => intro x2 h; exact Z.nix
  | succ n ih =>
    intro x2 h
    rw [f_X1_handOut_L2_s]
    refine z_iload_n rfl rfl ?_
    refine z_aload_n rfl rfl ?_
    refine z_getR rfl fl_X1_12 rfl k0 ?_
    refine z_getI rfl fl_X1_44 rfl (kO_1 k0) ?_
    refine z_icmp_ge rfl ?_ ?_
    · refine Z.weak ?_ (hc33 _)
      exact wkL_c (wkL_c (wkL_n (wkL_n (wkL_nil _))))
    · refine z_aload_n rfl rfl ?_
      refine z_iload_n rfl rfl ?_
      refine z_V1i ko0 mv_X1_117 kd_19 (t_X0_claimMatched _ _) rfl rfl rfl rfl rfl rfl (fun r1 h1 => ?_)
      refine z_iconst rfl rfl ?_
      refine z_icmp_eq rfl ?_ ?_
      · refine z_iinc rfl rfl rfl ?_
        refine z_goto rfl ?_
        refine Z.weak ?_ (ih _ _)
        exact wkL_c (wkL_c (wkL_c (wkL_n (wkL_nil _))))
      · refine z_aload_n rfl rfl ?_
        refine z_getR rfl fl_X1_12 rfl k0 ?_
        refine z_iload_n rfl rfl ?_
        refine z_iconst rfl rfl ?_
        refine z_V2i ko2 mv_X1_48 (kO_1 k0) (t_X2_cell (x0 + 1) (kO_1 k0) _ _ _) rfl rfl rfl rfl rfl rfl (fun r2 h2 => ?_)
        refine z_istore_n rfl rfl ?_
        refine z_aload_n rfl rfl ?_
        refine z_iconst rfl rfl ?_
        refine z_iload_n rfl rfl ?_
        refine z_iload_n rfl rfl ?_
        refine z_aload_n rfl rfl ?_
        refine z_iconst rfl rfl ?_
        refine z_V1i ko1 mv_X1_107 k0 (t_X1_setting x0 k0 _ _) rfl rfl rfl rfl rfl rfl (fun r3 h3 => ?_)
        refine z_imul rfl ?_
        refine z_V3v ko1 mv_X1_114 k0 (t_X1_enter x0 k0 _ _ _ _) rfl rfl rfl rfl rfl (fun _ h4 => ?_)
        refine z_aload_n rfl rfl ?_
        refine z_bipush rfl rfl ?_
        refine z_iconst rfl rfl ?_
        refine z_V2v ko1 mv_X1_61 k0 (t_X1_addTo x0 k0 _ _ _) rfl rfl rfl rfl rfl (fun _ h5 => ?_)
        refine z_iinc rfl rfl rfl ?_
        refine z_goto rfl ?_
        refine Z.weak ?_ (ih _ _)
        exact wkL_c (wkL_c (wkL_c (wkL_n (wkL_nil _))))
set_option maxRecDepth 20000 in
set_option maxHeartbeats 1000000 in
theorem t_X1_handOut_L39 (x0 : Nat) (k0 : kd x0 = (1, 0)) (c52 : Hp → Option (Int × Hp)) (hc52 : ∀ (h : Hp), Z M_X1_handOut 0 0 52 [some (vr x0), some (vr 19), none, none] [] h (c52  h)) : ∀ (n : Nat) (x2 : Int) (h : Hp), Z M_X1_handOut 0 0 39 [some (vr x0), some (vr 19), some (vi x2), none] [] h (f_X1_handOut_L39 x0 c52 n x2 h) := by
  intro n
  induction n with
  | zero => intro x2 h; exact Z.nix
  | succ n ih =>
    intro x2 h
    rw [f_X1_handOut_L39_s]
    refine z_iload_n rfl rfl ?_
    refine z_if_lt rfl ?_ ?_
    · refine Z.weak ?_ (hc52 _)
      exact wkL_c (wkL_c (wkL_n (wkL_n (wkL_nil _))))
    · refine z_aload_n rfl rfl ?_
      refine z_iload_n rfl rfl ?_
      refine z_V1i ko0 mv_X1_117 kd_19 (t_X0_claimMatched _ _) rfl rfl rfl rfl rfl rfl (fun r8 h8 => ?_)
      refine z_iconst rfl rfl ?_
      refine z_icmp_eq rfl ?_ ?_
      · refine z_iinc rfl rfl rfl ?_
        refine z_goto rfl ?_
        refine Z.weak ?_ (ih _ _)
        exact wkL_c (wkL_c (wkL_c (wkL_n (wkL_nil _))))
      · refine z_aload_n rfl rfl ?_
        refine z_getR rfl fl_X1_12 rfl k0 ?_
        refine z_iload_n rfl rfl ?_
        refine z_V1v ko2 mv_X1_83 (kO_1 k0) (t_X2_remove (x0 + 1) (kO_1 k0) _ _) rfl rfl rfl rfl rfl (fun _ h9 => ?_)
        refine z_iinc rfl rfl rfl ?_
        refine z_goto rfl ?_
        refine Z.weak ?_ (ih _ _)
        exact wkL_c (wkL_c (wkL_c (wkL_n (wkL_nil _))))
set_option maxRecDepth 20000 in
set_option maxHeartbeats 1000000 in
theorem t_X1_handOut_L58 (x0 : Nat) (k0 : kd x0 = (1, 0)) : ∀ (n : Nat) (x2 : Int) (h : Hp), Z M_X1_handOut 0 0 58 [some (vr x0), some (vr 19), some (vi x2), none] [] h (f_X1_handOut_L58 x0 n x2 h) := by
  intro n
  induction n with
  | zero => intro x2 h; exact Z.nix
  | succ n ih =>
    intro x2 h
    rw [f_X1_handOut_L58_s]
    refine z_iload_n rfl rfl ?_
    refine z_if_lt rfl ?_ ?_
    · refine z_aload_n rfl rfl ?_
      refine z_getI rfl fl_X1_125 rfl kd_19 ?_
      exact z_ireturn rfl rfl
    · refine z_aload_n rfl rfl ?_
      refine z_iload_n rfl rfl ?_
      refine z_V1i ko0 mv_X1_122 kd_19 (t_X0_umbrellaMatched _ _) rfl rfl rfl rfl rfl rfl (fun r12 h12 => ?_)
      refine z_iconst rfl rfl ?_
      refine z_icmp_eq rfl ?_ ?_
      · refine z_iinc rfl rfl rfl ?_
        refine z_goto rfl ?_
        refine Z.weak ?_ (ih _ _)
        exact wkL_c (wkL_c (wkL_c (wkL_n (wkL_nil _))))
      · refine z_aload_n rfl rfl ?_
        refine z_getR rfl fl_X1_18 rfl k0 ?_
        refine z_iload_n rfl rfl ?_
        refine z_V1v ko2 mv_X1_83 (kO_3 k0) (t_X2_remove (x0 + 3) (kO_3 k0) _ _) rfl rfl rfl rfl rfl (fun _ h13 => ?_)
        refine z_iinc rfl rfl rfl ?_
        refine z_goto rfl ?_
        refine Z.weak ?_ (ih _ _)
        exact wkL_c (wkL_c (wkL_c (wkL_n (wkL_nil _))))
set_option maxRecDepth 20000 in
set_option maxHeartbeats 1000000 in
theorem t_X1_handOut (x0 : Nat) (k0 : kd x0 = (1, 0)) (h : Hp) : Ct M_X1_handOut [vr x0, vr 19] h (f_X1_handOut x0 h) := by
  refine Ct.mk ok_X1_handOut pl_X1_handOut rfl rfl ?_
  show Z M_X1_handOut 0 0 0 [some (vr x0), some (vr 19), none, none] [] h (f_X1_handOut x0 h)
  unfold f_X1_handOut
  refine z_iconst rfl rfl ?_
  refine z_istore_n rfl rfl ?_
  refine Z.weak ?_ (t_X1_handOut_L2 x0 k0  _  ?_  fu _ _)
  · exact wkL_c (wkL_c (wkL_c (wkL_n (wkL_nil _))))
  · intro h6
    refine z_aload_n rfl rfl ?_
    refine z_getR rfl fl_X1_12 rfl k0 ?_
    refine z_getI rfl fl_X1_44 rfl (kO_1 k0) ?_
    refine z_iconst rfl rfl ?_
    refine z_isub rfl ?_
    refine z_istore_nL rfl rfl (fun y7 => ?_)
    refine Z.weak ?_ (t_X1_handOut_L39 x0 k0  _  ?_  fu _ _)
    · exact wkL_c (wkL_c (wkL_c (wkL_n (wkL_nil _))))
    · intro h10
      refine z_aload_n rfl rfl ?_
      refine z_getR rfl fl_X1_18 rfl k0 ?_
      refine z_getI rfl fl_X1_44 rfl (kO_3 k0) ?_
      refine z_iconst rfl rfl ?_
      refine z_isub rfl ?_
      refine z_istore_nL rfl rfl (fun y11 => ?_)
      refine Z.weak ?_ (t_X1_handOut_L58 x0 k0     fu _ _)
      · exact wkL_c (wkL_c (wkL_c (wkL_n (wkL_nil _))))
set_option maxRecDepth 20000 in
set_option maxHeartbeats 1000000 in
theorem t_X4_hand  (h : Hp) : Ct M_X4_hand [vr 0] h (f_X4_hand  h) := by
  refine Ct.mk ok_X4_hand pl_X4_hand rfl rfl ?_
  show Z M_X4_hand 0 0 0 [some (vr 0)] [] h (f_X4_hand  h)
  unfold f_X4_hand
  refine z_aload_n rfl rfl ?_
  refine z_V0v ko4 mv_X4_53 kd_0 (t_X4_keepState  _) rfl rfl rfl rfl rfl (fun _ h1 => ?_)
  refine z_aload_n rfl rfl ?_
  refine z_getRn (m := 19) rfl fl_X4_22 rfl kd_0 rfl ?_
  refine z_aload_n rfl rfl ?_
  refine z_getRn (m := 1) rfl fl_X4_10 rfl kd_0 rfl ?_
  refine z_V1v ko0 mv_X4_78 kd_19 (t_X0_matchAll 1 kd_1 _) rfl rfl rfl rfl rfl (fun _ h2 => ?_)
  refine z_aload_n rfl rfl ?_
  refine z_aload_n rfl rfl ?_
  refine z_getRn (m := 1) rfl fl_X4_10 rfl kd_0 rfl ?_
  refine z_aload_n rfl rfl ?_
  refine z_getRn (m := 19) rfl fl_X4_22 rfl kd_0 rfl ?_
  refine z_V1i ko1 mv_X4_82 kd_1 (t_X1_handOut 1 kd_1 _) rfl rfl rfl rfl rfl rfl (fun r3 h3 => ?_)
  refine z_V1i ko4 mv_X4_60 kd_0 (t_X4_recorded _ _) rfl rfl rfl rfl rfl rfl (fun r4 h4 => ?_)
  exact z_ireturn rfl rfl
set_option maxRecDepth 20000 in
set_option maxHeartbeats 1000000 in
theorem t_X1_changeSetting (x0 : Nat) (k0 : kd x0 = (1, 0)) (x1 : Int) (x2 : Int) (h : Hp) : Ct M_X1_changeSetting [vr x0, vi x1, vi x2] h (f_X1_changeSetting x0 x1 x2 h) := by
  refine Ct.mk ok_X1_changeSetting pl_X1_changeSetting rfl rfl ?_
  show Z M_X1_changeSetting 0 0 0 [some (vr x0), some (vi x1), some (vi x2), none] [] h (f_X1_changeSetting x0 x1 x2 h)
  unfold f_X1_changeSetting
  refine z_iload_n rfl rfl ?_
  refine z_if_lt rfl ?_ ?_
  · refine z_ldc rfl cst_X1_59 rfl ?_
    exact z_ireturn rfl rfl
  · refine z_iload_n rfl rfl ?_
    refine z_aload_n rfl rfl ?_
    refine z_getR rfl fl_X1_24 rfl k0 ?_
    refine z_alen (c := 0) rfl (kO_7 k0) (by omega) ?_
    refine z_icmp_ge rfl ?_ ?_
    · refine z_ldc rfl cst_X1_59 rfl ?_
      exact z_ireturn rfl rfl
    · refine z_iload_n rfl rfl ?_
      refine z_sget (i := 85) fs_X1_87 rfl rfl ?_
      refine z_iload_n rfl rfl ?_
      refine z_N2i mn_X1_90 (t_X4_numberAt 85 7 (Or.inr kd_85) _ _) rfl rfl rfl rfl rfl (fun r1 h1 => ?_)
      refine z_icmp_lt rfl ?_ ?_
      · refine z_ldc rfl cst_X1_59 rfl ?_
        exact z_ireturn rfl rfl
      · refine z_iload_n rfl rfl ?_
        refine z_sget (i := 86) fs_X1_94 rfl rfl ?_
        refine z_iload_n rfl rfl ?_
        refine z_N2i mn_X1_90 (t_X4_numberAt 86 7 (Or.inr kd_86) _ _) rfl rfl rfl rfl rfl (fun r2 h2 => ?_)
        refine z_icmp_le rfl ?_ ?_
        · refine z_aload_n rfl rfl ?_
          refine z_getR rfl fl_X1_24 rfl k0 ?_
          refine z_iload_n rfl rfl ?_
          refine z_iaload rfl (kO_7 k0) ?_
          refine z_istore_nL rfl rfl (fun y3 => ?_)
          refine z_aload_n rfl rfl ?_
          refine z_getR rfl fl_X1_24 rfl k0 ?_
          refine z_iload_n rfl rfl ?_
          refine z_iload_n rfl rfl ?_
          refine z_iastoreL (kO_7 k0) rfl (fun h4 => ?_)
          refine z_iload_n rfl rfl ?_
          exact z_ireturn rfl rfl
        · refine z_ldc rfl cst_X1_59 rfl ?_
          exact z_ireturn rfl rfl
set_option maxRecDepth 20000 in
set_option maxHeartbeats 1000000 in
theorem t_X4_set (x1 : Int) (x2 : Int) (h : Hp) : Ct M_X4_set [vr 0, vi x1, vi x2] h (f_X4_set x1 x2 h) := by
  refine Ct.mk ok_X4_set pl_X4_set rfl rfl ?_
  show Z M_X4_set 0 0 0 [some (vr 0), some (vi x1), some (vi x2)] [] h (f_X4_set x1 x2 h)
  unfold f_X4_set
  refine z_aload_n rfl rfl ?_
  refine z_V0v ko4 mv_X4_53 kd_0 (t_X4_keepState  _) rfl rfl rfl rfl rfl (fun _ h1 => ?_)
  refine z_aload_n rfl rfl ?_
  refine z_aload_n rfl rfl ?_
  refine z_getRn (m := 1) rfl fl_X4_10 rfl kd_0 rfl ?_
  refine z_iload_n rfl rfl ?_
  refine z_iload_n rfl rfl ?_
  refine z_V2i ko1 mv_X4_86 kd_1 (t_X1_changeSetting 1 kd_1 _ _ _) rfl rfl rfl rfl rfl rfl (fun r2 h2 => ?_)
  refine z_V1i ko4 mv_X4_60 kd_0 (t_X4_recorded _ _) rfl rfl rfl rfl rfl rfl (fun r3 h3 => ?_)
  exact z_ireturn rfl rfl
set_option maxRecDepth 20000 in
set_option maxHeartbeats 1000000 in
theorem t_X4_isDetail (x0 : Int) (h : Hp) : Ct M_X4_isDetail [vi x0] h (f_X4_isDetail x0 h) := by
  refine Ct.mk ok_X4_isDetail pl_X4_isDetail rfl rfl ?_
  show Z M_X4_isDetail 0 0 0 [some (vi x0)] [] h (f_X4_isDetail x0 h)
  unfold f_X4_isDetail
  refine z_iload_n rfl rfl ?_
  refine z_if_lt rfl ?_ ?_
  · refine z_iconst rfl rfl ?_
    exact z_zret0 rfl rfl
  · refine z_iload_n rfl rfl ?_
    refine z_iconst rfl rfl ?_
    refine z_icmp_ge rfl ?_ ?_
    · refine z_iconst rfl rfl ?_
      exact z_zret0 rfl rfl
    · refine z_iconst rfl rfl ?_
      refine z_goto rfl ?_
      exact z_zret1 rfl rfl
set_option maxRecDepth 20000 in
set_option maxHeartbeats 1000000 in
theorem t_X2_put (x0 : Nat) (k0 : kd x0 = (2, 0)) (x1 : Int) (x2 : Int) (x3 : Int) (h : Hp) : Ct M_X2_put [vr x0, vi x1, vi x2, vi x3] h (f_X2_put x0 x1 x2 x3 h) := by
  refine Ct.mk ok_X2_put pl_X2_put rfl rfl ?_
  show Z M_X2_put 0 0 0 [some (vr x0), some (vi x1), some (vi x2), some (vi x3), none] [] h (f_X2_put x0 x1 x2 x3 h)
  unfold f_X2_put
  refine z_iload_n rfl rfl ?_
  refine z_if_lt rfl ?_ ?_
  · exact z_return rfl rfl
  · refine z_iload_n rfl rfl ?_
    refine z_aload_n rfl rfl ?_
    refine z_getI rfl fl_X2_15 rfl k0 ?_
    refine z_icmp_ge rfl ?_ ?_
    · exact z_return rfl rfl
    · refine z_iload_n rfl rfl ?_
      refine z_if_lt rfl ?_ ?_
      · exact z_return rfl rfl
      · refine z_iload_n rfl rfl ?_
        refine z_bipush rfl rfl ?_
        refine z_icmp_lt rfl ?_ ?_
        · refine z_iload_n rfl rfl ?_
          refine z_bipush rfl rfl ?_
          refine z_imul rfl ?_
          refine z_iload_n rfl rfl ?_
          refine z_iadd rfl ?_
          refine z_istoreL rfl rfl (fun y1 => ?_)
          refine z_iload rfl rfl ?_
          refine z_if_lt rfl ?_ ?_
          · exact z_return rfl rfl
          · refine z_iload rfl rfl ?_
            refine z_aload_n rfl rfl ?_
            refine z_getR rfl fl_X2_9 rfl k0 ?_
            refine z_alen (c := 0) rfl (kR_1 k0) (by omega) ?_
            refine z_icmp_ge rfl ?_ ?_
            · exact z_return rfl rfl
            · refine z_aload_n rfl rfl ?_
              refine z_getR rfl fl_X2_9 rfl k0 ?_
              refine z_iload rfl rfl ?_
              refine z_iload_n rfl rfl ?_
              refine z_iastoreL (kR_1 k0) rfl (fun h2 => ?_)
              exact z_return rfl rfl
        · exact z_return rfl rfl
set_option maxRecDepth 20000 in
set_option maxHeartbeats 1000000 in
theorem t_X1_noteDetail_J32 (x0 : Nat) (k0 : kd x0 = (1, 0)) (x1 : Int) (x2 : Int) (x3 : Int) (x5 : Int) (h : Hp) : Z M_X1_noteDetail 0 0 32 [some (vr x0), some (vi x1), some (vi x2), some (vi x3), none, some (vi x5)] [] h (f_X1_noteDetail_J32 x0 x1 x2 x3 x5 h) := by
  unfold f_X1_noteDetail_J32
  refine z_aload_n rfl rfl ?_
  refine z_getR rfl fl_X1_18 rfl k0 ?_
  refine z_iload_n rfl rfl ?_
  refine z_iload_n rfl rfl ?_
  refine z_iload_n rfl rfl ?_
  refine z_V3v ko2 mv_X1_79 (kO_3 k0) (t_X2_put (x0 + 3) (kO_3 k0) _ _ _ _) rfl rfl rfl rfl rfl (fun _ h6 => ?_)
  refine z_aload_n rfl rfl ?_
  refine z_getR rfl fl_X1_18 rfl k0 ?_
  refine z_iload_n rfl rfl ?_
  refine z_iconst rfl rfl ?_
  refine z_iload rfl rfl ?_
  refine z_V3v ko2 mv_X1_79 (kO_3 k0) (t_X2_put (x0 + 3) (kO_3 k0) _ _ _ _) rfl rfl rfl rfl rfl (fun _ h7 => ?_)
  refine z_iload rfl rfl ?_
  exact z_ireturn rfl rfl
set_option maxRecDepth 20000 in
set_option maxHeartbeats 1000000 in
theorem t_X1_noteDetail (x0 : Nat) (k0 : kd x0 = (1, 0)) (x1 : Int) (x2 : Int) (x3 : Int) (h : Hp) : Ct M_X1_noteDetail [vr x0, vi x1, vi x2, vi x3] h (f_X1_noteDetail x0 x1 x2 x3 h) := by
  refine Ct.mk ok_X1_noteDetail pl_X1_noteDetail rfl rfl ?_
  show Z M_X1_noteDetail 0 0 0 [some (vr x0), some (vi x1), some (vi x2), some (vi x3), none, none] [] h (f_X1_noteDetail x0 x1 x2 x3 h)
  unfold f_X1_noteDetail
  refine z_aload_n rfl rfl ?_
  refine z_getR rfl fl_X1_18 rfl k0 ?_
  refine z_iload_n rfl rfl ?_
  refine z_V1i ko2 mv_X1_73 (kO_3 k0) (t_X2_has (x0 + 3) (kO_3 k0) _ _) rfl rfl rfl rfl rfl rfl (fun r1 h1 => ?_)
  refine z_if_eq rfl ?_ ?_
  · refine z_ldc rfl cst_X1_59 rfl ?_
    exact z_ireturn rfl rfl
  · refine z_iload_n rfl rfl ?_
    refine z_N1i mn_X1_76 (t_X4_isDetail _ _) rfl rfl rfl rfl rfl (fun r2 h2 => ?_)
    refine z_if_eq rfl ?_ ?_
    · refine z_ldc rfl cst_X1_59 rfl ?_
      exact z_ireturn rfl rfl
    · refine z_iload_n rfl rfl ?_
      refine z_N1i mn_X1_55 (t_X4_isValue _ _) rfl rfl rfl rfl rfl (fun r3 h3 => ?_)
      refine z_if_ne rfl ?_ ?_
      · refine z_aload_n rfl rfl ?_
        refine z_getR rfl fl_X1_18 rfl k0 ?_
        refine z_iload_n rfl rfl ?_
        refine z_iload_n rfl rfl ?_
        refine z_V2i ko2 mv_X1_48 (kO_3 k0) (t_X2_cell (x0 + 3) (kO_3 k0) _ _ _) rfl rfl rfl rfl rfl rfl (fun r4 h4 => ?_)
        refine z_istore rfl rfl ?_
        refine z_aload_n rfl rfl ?_
        refine z_getR rfl fl_X1_18 rfl k0 ?_
        refine z_iload_n rfl rfl ?_
        refine z_iconst rfl rfl ?_
        refine z_V2i ko2 mv_X1_48 (kO_3 k0) (t_X2_cell (x0 + 3) (kO_3 k0) _ _ _) rfl rfl rfl rfl rfl rfl (fun r5 h5 => ?_)
        refine z_istore rfl rfl ?_
        refine z_iload rfl rfl ?_
        refine z_iconst rfl rfl ?_
        refine z_icmp_eq rfl ?_ ?_
        · refine Z.weak ?_ (t_X1_noteDetail_J32 x0 k0 _ _ _ _  _)
          exact wkL_c (wkL_c (wkL_c (wkL_c (wkL_n (wkL_c (wkL_nil _))))))
        · refine z_iload rfl rfl ?_
          refine z_iload_n rfl rfl ?_
          refine z_icmp_eq rfl ?_ ?_
          · refine Z.weak ?_ (t_X1_noteDetail_J32 x0 k0 _ _ _ _  _)
            exact wkL_c (wkL_c (wkL_c (wkL_c (wkL_n (wkL_c (wkL_nil _))))))
          · refine z_iinc rfl rfl rfl ?_
            refine Z.weak ?_ (t_X1_noteDetail_J32 x0 k0 _ _ _ _  _)
            exact wkL_c (wkL_c (wkL_c (wkL_c (wkL_n (wkL_c (wkL_nil _))))))
      · refine z_ldc rfl cst_X1_59 rfl ?_
        exact z_ireturn rfl rfl
set_option maxRecDepth 20000 in
set_option maxHeartbeats 1000000 in
theorem t_X4_tell (x1 : Int) (x2 : Int) (x3 : Int) (h : Hp) : Ct M_X4_tell [vr 0, vi x1, vi x2, vi x3] h (f_X4_tell x1 x2 x3 h) := by
  refine Ct.mk ok_X4_tell pl_X4_tell rfl rfl ?_
  show Z M_X4_tell 0 0 0 [some (vr 0), some (vi x1), some (vi x2), some (vi x3)] [] h (f_X4_tell x1 x2 x3 h)
  unfold f_X4_tell
  refine z_aload_n rfl rfl ?_
  refine z_V0v ko4 mv_X4_53 kd_0 (t_X4_keepState  _) rfl rfl rfl rfl rfl (fun _ h1 => ?_)
  refine z_aload_n rfl rfl ?_
  refine z_aload_n rfl rfl ?_
  refine z_getRn (m := 1) rfl fl_X4_10 rfl kd_0 rfl ?_
  refine z_iload_n rfl rfl ?_
  refine z_iload_n rfl rfl ?_
  refine z_iload_n rfl rfl ?_
  refine z_V3i ko1 mv_X4_67 kd_1 (t_X1_noteDetail 1 kd_1 _ _ _ _) rfl rfl rfl rfl rfl rfl (fun r2 h2 => ?_)
  refine z_V1i ko4 mv_X4_60 kd_0 (t_X4_recorded _ _) rfl rfl rfl rfl rfl rfl (fun r3 h3 => ?_)
  exact z_ireturn rfl rfl
set_option maxRecDepth 20000 in
set_option maxHeartbeats 1000000 in
theorem t_X4_isWeeksAtOnce (x0 : Int) (h : Hp) : Ct M_X4_isWeeksAtOnce [vi x0] h (f_X4_isWeeksAtOnce x0 h) := by
  refine Ct.mk ok_X4_isWeeksAtOnce pl_X4_isWeeksAtOnce rfl rfl ?_
  show Z M_X4_isWeeksAtOnce 0 0 0 [some (vi x0)] [] h (f_X4_isWeeksAtOnce x0 h)
  unfold f_X4_isWeeksAtOnce
  refine z_iload_n rfl rfl ?_
  refine z_iconst rfl rfl ?_
  refine z_icmp_lt rfl ?_ ?_
  · refine z_iconst rfl rfl ?_
    exact z_zret0 rfl rfl
  · refine z_iload_n rfl rfl ?_
    refine z_bipush rfl rfl ?_
    refine z_icmp_gt rfl ?_ ?_
    · refine z_iconst rfl rfl ?_
      exact z_zret0 rfl rfl
    · refine z_iconst rfl rfl ?_
      refine z_goto rfl ?_
      exact z_zret1 rfl rfl
set_option maxRecDepth 20000 in
set_option maxHeartbeats 1000000 in
theorem t_X1_endOld_L5 (x0 : Nat) (k0 : kd x0 = (1, 0)) (x1 : Nat) (k1 : kd x1 = (2, 0)) (x2 : Int) (x3 : Int) (x4 : Int) : ∀ (n : Nat) (x5 : Int) (x6 : Int) (h : Hp), Z M_X1_endOld 0 0 5 [some (vr x0), some (vr x1), some (vi x2), some (vi x3), some (vi x4), some (vi x5), some (vi x6), none] [] h (f_X1_endOld_L5 x0 x1 x2 x3 x4 n x5 x6 h) := by
  intro n
  induction n with
  | zero => intro x5 x6 h; exact Z.nix
  | succ n ih =>
    intro x5 x6 h
    rw [f_X1_endOld_L5_s]
    refine z_iload rfl rfl ?_
    refine z_if_le rfl ?_ ?_
    · exact z_return rfl rfl
    · refine z_aload_n rfl rfl ?_
      refine z_iload rfl rfl ?_
      refine z_iconst rfl rfl ?_
      refine z_V2i ko2 mv_X1_48 k1 (t_X2_cell x1 k1 _ _ _) rfl rfl rfl rfl rfl rfl (fun r2 h2 => ?_)
      refine z_istore rfl rfl ?_
      refine z_iload rfl rfl ?_
      refine z_aload_n rfl rfl ?_
      refine z_iconst rfl rfl ?_
      refine z_V1i ko1 mv_X1_107 k0 (t_X1_setting x0 k0 _ _) rfl rfl rfl rfl rfl rfl (fun r3 h3 => ?_)
      refine z_icmp_ge rfl ?_ ?_
      · refine z_aload_n rfl rfl ?_
        refine z_iload rfl rfl ?_
        refine z_V1v ko2 mv_X1_83 k1 (t_X2_remove x1 k1 _ _) rfl rfl rfl rfl rfl (fun _ h4 => ?_)
        refine z_aload_n rfl rfl ?_
        refine z_iload_n rfl rfl ?_
        refine z_iconst rfl rfl ?_
        refine z_V2v ko1 mv_X1_61 k0 (t_X1_addTo x0 k0 _ _ _) rfl rfl rfl rfl rfl (fun _ h5 => ?_)
        refine z_aload_n rfl rfl ?_
        refine z_iload_n rfl rfl ?_
        refine z_iload rfl rfl ?_
        refine z_iload rfl rfl ?_
        refine z_V3v ko1 mv_X1_114 k0 (t_X1_enter x0 k0 _ _ _ _) rfl rfl rfl rfl rfl (fun _ h6 => ?_)
        refine z_iinc rfl rfl rfl ?_
        refine z_goto rfl ?_
        refine Z.weak ?_ (ih _ _ _)
        exact wkL_c (wkL_c (wkL_c (wkL_c (wkL_c (wkL_c (wkL_c (wkL_n (wkL_nil _))))))))
      · refine z_iinc rfl rfl rfl ?_
        refine z_goto rfl ?_
        refine z_iinc rfl rfl rfl ?_
        refine z_goto rfl ?_
        refine Z.weak ?_ (ih _ _ _)
        exact wkL_c (wkL_c (wkL_c (wkL_c (wkL_c (wkL_c (wkL_c (wkL_n (wkL_nil _))))))))
set_option maxRecDepth 20000 in
set_option maxHeartbeats 1000000 in
theorem t_X1_endOld (x0 : Nat) (k0 : kd x0 = (1, 0)) (x1 : Nat) (k1 : kd x1 = (2, 0)) (x2 : Int) (x3 : Int) (x4 : Int) (h : Hp) : Ct M_X1_endOld [vr x0, vr x1, vi x2, vi x3, vi x4] h (f_X1_endOld x0 x1 x2 x3 x4 h) := by
  refine Ct.mk ok_X1_endOld pl_X1_endOld rfl rfl ?_
  show Z M_X1_endOld 0 0 0 [some (vr x0), some (vr x1), some (vi x2), some (vi x3), some (vi x4), none, none, none] [] h (f_X1_endOld x0 x1 x2 x3 x4 h)
  unfold f_X1_endOld
  refine z_iconst rfl rfl ?_
  refine z_istore rfl rfl ?_
  refine z_aload_n rfl rfl ?_
  refine z_getI rfl fl_X1_44 rfl k1 ?_
  refine z_istoreL rfl rfl (fun y1 => ?_)
  refine Z.weak ?_ (t_X1_endOld_L5 x0 k0 x1 k1 _ _ _     fu _ _ _)
  · exact wkL_c (wkL_c (wkL_c (wkL_c (wkL_c (wkL_c (wkL_c (wkL_n (wkL_nil _))))))))
set_option maxRecDepth 20000 in
set_option maxHeartbeats 1000000 in
theorem t_X1_growOlder_L2 (x0 : Nat) (k0 : kd x0 = (1, 0)) (x1 : Nat) (k1 : kd x1 = (2, 0)) : ∀ (n : Nat) (x2 : Int) (h : Hp), Z M_X1_growOlder 0 0 2 [none, some (vr x1), some (vi x2)] [] h (f_X1_growOlder_L2 x0 x1 n x2 h) := by
  intro n
  induction n with
  | zero => intro x2 h; exact Z.nix
  | succ n ih =>
    intro x2 h
    rw [f_X1_growOlder_L2_s]
    refine z_iload_n rfl rfl ?_
    refine z_aload_n rfl rfl ?_
    refine z_getI rfl fl_X1_44 rfl k1 ?_
    refine z_icmp_ge rfl ?_ ?_
    · exact z_return rfl rfl
    · refine z_aload_n rfl rfl ?_
      refine z_iload_n rfl rfl ?_
      refine z_iconst rfl rfl ?_
      refine z_aload_n rfl rfl ?_
      refine z_iload_n rfl rfl ?_
      refine z_iconst rfl rfl ?_
      refine z_V2i ko2 mv_X1_48 k1 (t_X2_cell x1 k1 _ _ _) rfl rfl rfl rfl rfl rfl (fun r1 h1 => ?_)
      refine z_iconst rfl rfl ?_
      refine z_iadd rfl ?_
      refine z_V3v ko2 mv_X1_79 k1 (t_X2_put x1 k1 _ _ _ _) rfl rfl rfl rfl rfl (fun _ h2 => ?_)
      refine z_iinc rfl rfl rfl ?_
      refine z_goto rfl ?_
      refine Z.weak ?_ (ih _ _)
      exact wkL_n (wkL_c (wkL_c (wkL_nil _)))
set_option maxRecDepth 20000 in
set_option maxHeartbeats 1000000 in
theorem t_X1_growOlder (x0 : Nat) (k0 : kd x0 = (1, 0)) (x1 : Nat) (k1 : kd x1 = (2, 0)) (h : Hp) : Ct M_X1_growOlder [vr x0, vr x1] h (f_X1_growOlder x0 x1 h) := by
  refine Ct.mk ok_X1_growOlder pl_X1_growOlder rfl rfl ?_
  show Z M_X1_growOlder 0 0 0 [some (vr x0), some (vr x1), none] [] h (f_X1_growOlder x0 x1 h)
  unfold f_X1_growOlder
  refine z_iconst rfl rfl ?_
  refine z_istore_n rfl rfl ?_
  refine Z.weak ?_ (t_X1_growOlder_L2 x0 k0 x1 k1     fu _ _)
  · exact wkL_n (wkL_c (wkL_c (wkL_nil _)))
set_option maxRecDepth 20000 in
set_option maxHeartbeats 1000000 in
theorem t_X1_passWeeks_L20 (x0 : Nat) (k0 : kd x0 = (1, 0)) (x1 : Int) (x3 : Int) : ∀ (n : Nat) (x4 : Int) (h : Hp), Z M_X1_passWeeks 0 0 20 [some (vr x0), some (vi x1), none, some (vi x3), some (vi x4)] [] h (f_X1_passWeeks_L20 x0 x1 x3 n x4 h) := by
  intro n
  induction n with
  | zero => intro x4 h; exact Z.nix
  | succ n ih =>
    intro x4 h
    rw [f_X1_passWeeks_L20_s]
    refine z_iload rfl rfl ?_
    refine z_iload_n rfl rfl ?_
    refine z_icmp_ge rfl ?_ ?_
    · refine z_aload_n rfl rfl ?_
      refine z_bipush rfl rfl ?_
      refine z_V1i ko1 mv_X1_100 k0 (t_X1_sum x0 k0 _ _) rfl rfl rfl rfl rfl rfl (fun r4 h4 => ?_)
      refine z_iload_n rfl rfl ?_
      refine z_isub rfl ?_
      exact z_ireturn rfl rfl
    · refine z_aload_n rfl rfl ?_
      refine z_iconst rfl rfl ?_
      refine z_iconst rfl rfl ?_
      refine z_V2v ko1 mv_X1_61 k0 (t_X1_addTo x0 k0 _ _ _) rfl rfl rfl rfl rfl (fun _ h5 => ?_)
      refine z_aload_n rfl rfl ?_
      refine z_aload_n rfl rfl ?_
      refine z_getR rfl fl_X1_12 rfl k0 ?_
      refine z_V1v ko1 mv_X1_104 k0 (t_X1_growOlder x0 k0 (x0 + 1) (kO_1 k0) _) rfl rfl rfl rfl rfl (fun _ h6 => ?_)
      refine z_aload_n rfl rfl ?_
      refine z_aload_n rfl rfl ?_
      refine z_getR rfl fl_X1_18 rfl k0 ?_
      refine z_V1v ko1 mv_X1_104 k0 (t_X1_growOlder x0 k0 (x0 + 3) (kO_3 k0) _) rfl rfl rfl rfl rfl (fun _ h7 => ?_)
      refine z_aload_n rfl rfl ?_
      refine z_aload_n rfl rfl ?_
      refine z_getR rfl fl_X1_12 rfl k0 ?_
      refine z_iconst rfl rfl ?_
      refine z_bipush rfl rfl ?_
      refine z_aload_n rfl rfl ?_
      refine z_bipush rfl rfl ?_
      refine z_V1i ko1 mv_X1_107 k0 (t_X1_setting x0 k0 _ _) rfl rfl rfl rfl rfl rfl (fun r8 h8 => ?_)
      refine z_V4v ko1 mv_X1_110 k0 (t_X1_endOld x0 k0 (x0 + 1) (kO_1 k0) _ _ _ _) rfl rfl rfl rfl rfl (fun _ h9 => ?_)
      refine z_aload_n rfl rfl ?_
      refine z_aload_n rfl rfl ?_
      refine z_getR rfl fl_X1_18 rfl k0 ?_
      refine z_iconst rfl rfl ?_
      refine z_bipush rfl rfl ?_
      refine z_iconst rfl rfl ?_
      refine z_V4v ko1 mv_X1_110 k0 (t_X1_endOld x0 k0 (x0 + 3) (kO_3 k0) _ _ _ _) rfl rfl rfl rfl rfl (fun _ h10 => ?_)
      refine z_iinc rfl rfl rfl ?_
      refine z_goto rfl ?_
      refine Z.weak ?_ (ih _ _)
      exact wkL_c (wkL_c (wkL_n (wkL_c (wkL_c (wkL_nil _)))))
set_option maxRecDepth 20000 in
set_option maxHeartbeats 1000000 in
theorem t_X1_passWeeks (x0 : Nat) (k0 : kd x0 = (1, 0)) (x1 : Int) (x2 : Int) (h : Hp) : Ct M_X1_passWeeks [vr x0, vi x1, vi x2] h (f_X1_passWeeks x0 x1 x2 h) := by
  refine Ct.mk ok_X1_passWeeks pl_X1_passWeeks rfl rfl ?_
  show Z M_X1_passWeeks 0 0 0 [some (vr x0), some (vi x1), some (vi x2), none, none] [] h (f_X1_passWeeks x0 x1 x2 h)
  unfold f_X1_passWeeks
  refine z_iload_n rfl rfl ?_
  refine z_N1i mn_X1_97 (t_X4_isWeeksAtOnce _ _) rfl rfl rfl rfl rfl (fun r1 h1 => ?_)
  refine z_if_ne rfl ?_ ?_
  · refine z_aload_n rfl rfl ?_
    refine z_iconst rfl rfl ?_
    refine z_V1i ko1 mv_X1_100 k0 (t_X1_sum x0 k0 _ _) rfl rfl rfl rfl rfl rfl (fun r2 h2 => ?_)
    refine z_iload_n rfl rfl ?_
    refine z_iadd rfl ?_
    refine z_iload_n rfl rfl ?_
    refine z_icmp_le rfl ?_ ?_
    · refine z_aload_n rfl rfl ?_
      refine z_bipush rfl rfl ?_
      refine z_V1i ko1 mv_X1_100 k0 (t_X1_sum x0 k0 _ _) rfl rfl rfl rfl rfl rfl (fun r3 h3 => ?_)
      refine z_istore_n rfl rfl ?_
      refine z_iconst rfl rfl ?_
      refine z_istore rfl rfl ?_
      refine Z.weak ?_ (t_X1_passWeeks_L20 x0 k0 _ _     fu _ _)
      · exact wkL_c (wkL_c (wkL_n (wkL_c (wkL_c (wkL_nil _)))))
    · refine z_ldc rfl cst_X1_60 rfl ?_
      exact z_ireturn rfl rfl
  · refine z_ldc rfl cst_X1_59 rfl ?_
    exact z_ireturn rfl rfl
set_option maxRecDepth 20000 in
set_option maxHeartbeats 1000000 in
theorem t_X4_weeks (x1 : Int) (h : Hp) : Ct M_X4_weeks [vr 0, vi x1] h (f_X4_weeks x1 h) := by
  refine Ct.mk ok_X4_weeks pl_X4_weeks rfl rfl ?_
  show Z M_X4_weeks 0 0 0 [some (vr 0), some (vi x1)] [] h (f_X4_weeks x1 h)
  unfold f_X4_weeks
  refine z_aload_n rfl rfl ?_
  refine z_V0v ko4 mv_X4_53 kd_0 (t_X4_keepState  _) rfl rfl rfl rfl rfl (fun _ h1 => ?_)
  refine z_aload_n rfl rfl ?_
  refine z_aload_n rfl rfl ?_
  refine z_getRn (m := 1) rfl fl_X4_10 rfl kd_0 rfl ?_
  refine z_iload_n rfl rfl ?_
  refine z_sipush rfl rfl ?_
  refine z_V2i ko1 mv_X4_74 kd_1 (t_X1_passWeeks 1 kd_1 _ _ _) rfl rfl rfl rfl rfl rfl (fun r2 h2 => ?_)
  refine z_V1i ko4 mv_X4_60 kd_0 (t_X4_recorded _ _) rfl rfl rfl rfl rfl rfl (fun r3 h3 => ?_)
  exact z_ireturn rfl rfl
set_option maxRecDepth 20000 in
set_option maxHeartbeats 1000000 in
theorem t_X4_book (x1 : Int) (x2 : Int) (h : Hp) : Ct M_X4_book [vr 0, vi x1, vi x2] h (f_X4_book x1 x2 h) := by
  refine Ct.mk ok_X4_book pl_X4_book rfl rfl ?_
  show Z M_X4_book 0 0 0 [some (vr 0), some (vi x1), some (vi x2), none] [] h (f_X4_book x1 x2 h)
  unfold f_X4_book
  refine z_iload_n rfl rfl ?_
  refine z_if_lt rfl ?_ ?_
  · refine z_ldc rfl cst_X4_99 rfl ?_
    exact z_ireturn rfl rfl
  · refine z_iload_n rfl rfl ?_
    refine z_if_lt rfl ?_ ?_
    · refine z_ldc rfl cst_X4_99 rfl ?_
      exact z_ireturn rfl rfl
    · refine z_iload_n rfl rfl ?_
      refine z_iconst rfl rfl ?_
      refine z_icmp_lt rfl ?_ ?_
      · refine z_aload_n rfl rfl ?_
        refine z_getRn (m := 1) rfl fl_X4_10 rfl kd_0 rfl ?_
        refine z_getRn (m := 6) rfl fl_X4_144 rfl kd_1 rfl ?_
        refine z_getI rfl fl_X4_147 rfl kd_6 ?_
        refine z_iconst rfl rfl ?_
        refine z_isub rfl ?_
        refine z_iload_n rfl rfl ?_
        refine z_isub rfl ?_
        refine z_istore_nL rfl rfl (fun y1 => ?_)
        refine z_iload_n rfl rfl ?_
        refine z_if_ge rfl ?_ ?_
        · refine z_aload_n rfl rfl ?_
          refine z_getRn (m := 1) rfl fl_X4_10 rfl kd_0 rfl ?_
          refine z_getRn (m := 6) rfl fl_X4_144 rfl kd_1 rfl ?_
          refine z_iload_n rfl rfl ?_
          refine z_iload_n rfl rfl ?_
          refine z_V2i ko2 mv_X4_100 kd_6 (t_X2_cell 6 kd_6 _ _ _) rfl rfl rfl rfl rfl rfl (fun r2 h2 => ?_)
          exact z_ireturn rfl rfl
        · refine z_ldc rfl cst_X4_112 rfl ?_
          refine z_goto rfl ?_
          exact z_ireturn rfl rfl
      · refine z_ldc rfl cst_X4_99 rfl ?_
        exact z_ireturn rfl rfl
set_option maxRecDepth 20000 in
set_option maxHeartbeats 1000000 in
theorem t_X0_part (x1 : Int) (x2 : Int) (h : Hp) : Ct M_X0_part [vr 19, vi x1, vi x2] h (f_X0_part x1 x2 h) := by
  refine Ct.mk ok_X0_part pl_X0_part rfl rfl ?_
  show Z M_X0_part 0 0 0 [some (vr 19), some (vi x1), some (vi x2)] [] h (f_X0_part x1 x2 h)
  unfold f_X0_part
  refine z_iload_n rfl rfl ?_
  refine z_if_lt rfl ?_ ?_
  · exact z_return rfl rfl
  · refine z_iload_n rfl rfl ?_
    refine z_bipush rfl rfl ?_
    refine z_icmp_ge rfl ?_ ?_
    · exact z_return rfl rfl
    · refine z_iload_n rfl rfl ?_
      refine z_if_lt rfl ?_ ?_
      · exact z_return rfl rfl
      · refine z_iload_n rfl rfl ?_
        refine z_bipush rfl rfl ?_
        refine z_icmp_ge rfl ?_ ?_
        · exact z_return rfl rfl
        · refine z_aload_n rfl rfl ?_
          refine z_getRn (m := 25) rfl fl_X0_28 rfl kd_19 rfl ?_
          refine z_iload_n rfl rfl ?_
          refine z_iconst rfl rfl ?_
          refine z_iastoreL kd_25 rfl (fun h1 => ?_)
          refine z_aload_n rfl rfl ?_
          refine z_getRn (m := 26) rfl fl_X0_31 rfl kd_19 rfl ?_
          refine z_iload_n rfl rfl ?_
          refine z_iconst rfl rfl ?_
          refine z_iastoreL kd_26 rfl (fun h2 => ?_)
          refine z_aload_n rfl rfl ?_
          refine z_dup rfl rfl ?_
          refine z_getI rfl fl_X0_41 rfl kd_19 ?_
          refine z_iconst rfl rfl ?_
          refine z_isub rfl ?_
          refine z_putL fi_X0_41 rfl kd_19 rfl (fun h3 => ?_)
          exact z_return rfl rfl
set_option maxRecDepth 20000 in
set_option maxHeartbeats 1000000 in
theorem t_X0_askFor_J36 (x1 : Int) (x2 : Int) (h : Hp) : Z M_X0_askFor 0 0 36 [some (vr 19), some (vi x1), some (vi x2), none] [] h (f_X0_askFor_J36 x1 x2 h) := by
  unfold f_X0_askFor_J36
  refine z_aload_n rfl rfl ?_
  refine z_iload_n rfl rfl ?_
  refine z_iload_n rfl rfl ?_
  refine z_bipush rfl rfl ?_
  refine z_irem rfl rfl ?_
  refine z_V2v ko0 mv_X0_98 kd_19 (t_X0_join _ _ _) rfl rfl rfl rfl rfl (fun _ h4 => ?_)
  exact z_return rfl rfl
set_option maxRecDepth 20000 in
set_option maxHeartbeats 1000000 in
theorem t_X0_askFor (x1 : Int) (h : Hp) : Ct M_X0_askFor [vr 19, vi x1] h (f_X0_askFor x1 h) := by
  refine Ct.mk ok_X0_askFor pl_X0_askFor rfl rfl ?_
  show Z M_X0_askFor 0 0 0 [some (vr 19), some (vi x1), none, none] [] h (f_X0_askFor x1 h)
  unfold f_X0_askFor
  refine z_iload_n rfl rfl ?_
  refine z_if_lt rfl ?_ ?_
  · exact z_return rfl rfl
  · refine z_iload_n rfl rfl ?_
    refine z_sipush rfl rfl ?_
    refine z_icmp_lt rfl ?_ ?_
    · refine z_aload_n rfl rfl ?_
      refine z_getRn (m := 23) rfl fl_X0_22 rfl kd_19 rfl ?_
      refine z_iload_n rfl rfl ?_
      refine z_iconst rfl rfl ?_
      refine z_bastoreL kd_23 rfl (fun h1 => ?_)
      refine z_iload_n rfl rfl ?_
      refine z_bipush rfl rfl ?_
      refine z_idiv rfl rfl ?_
      refine z_istore_nL rfl rfl (fun y2 => ?_)
      refine z_aload_n rfl rfl ?_
      refine z_iload_n rfl rfl ?_
      refine z_V1i ko0 mv_X0_102 kd_19 (t_X0_claimMatched _ _) rfl rfl rfl rfl rfl rfl (fun r3 h3 => ?_)
      refine z_istore_n rfl rfl ?_
      refine z_iload_n rfl rfl ?_
      refine z_iconst rfl rfl ?_
      refine z_icmp_eq rfl ?_ ?_
      · refine Z.weak ?_ (t_X0_askFor_J36  _ _  _)
        exact wkL_c (wkL_c (wkL_c (wkL_n (wkL_nil _))))
      · refine z_aload_n rfl rfl ?_
        refine z_iload_n rfl rfl ?_
        refine z_aload_n rfl rfl ?_
        refine z_iload_n rfl rfl ?_
        refine z_iload_n rfl rfl ?_
        refine z_V2i ko0 mv_X0_81 kd_19 (t_X0_pairOf _ _ _) rfl rfl rfl rfl rfl rfl (fun r5 h5 => ?_)
        refine z_V2i ko0 mv_X0_108 kd_19 (t_X0_aheadOf _ _ _) rfl rfl rfl rfl rfl rfl (fun r6 h6 => ?_)
        refine z_iload_n rfl rfl ?_
        refine z_icmp_eq rfl ?_ ?_
        · refine z_aload_n rfl rfl ?_
          refine z_iload_n rfl rfl ?_
          refine z_iload_n rfl rfl ?_
          refine z_V2v ko0 mv_X0_124 kd_19 (t_X0_part _ _ _) rfl rfl rfl rfl rfl (fun _ h7 => ?_)
          refine Z.weak ?_ (t_X0_askFor_J36  _ _  _)
          exact wkL_c (wkL_c (wkL_c (wkL_n (wkL_nil _))))
        · exact z_return rfl rfl
    · exact z_return rfl rfl
