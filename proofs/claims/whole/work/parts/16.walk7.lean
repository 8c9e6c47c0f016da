/-! printed by wip/gen/gen.py: the bytecode does what the functions say -/
set_option maxRecDepth 20000 in
set_option maxHeartbeats 1000000 in
theorem t_X5_readsOrder_J13 (s1 : Int) (h : Hp) : Z M_X5_readsOrder 13 [some (vr 76)] [vi s1, vr 76] h (f_X5_readsOrder_J13 s1 h) := by
  unfold f_X5_readsOrder_J13
  refine z_putL fi_X5_193 rfl kd_76 rfl (fun h1 => ?_)
  refine z_aload_n rfl rfl ?_
  refine z_getI rfl fl_X5_193 rfl kd_76 ?_
  refine Z.ite (fun e5 => ?_) (fun e5 => ?_)
  · refine z_look (tg := 34) rfl rfl (o := 86) (by rw [e5]; rfl) rfl ?_
    refine z_aload_n rfl rfl ?_
    refine z_ldc2 cst_X5_205 rfl ?_
    refine z_V1i ko5 mv_X5_198 kd_76 (t_X5_takesWord _ _) rfl rfl rfl rfl rfl (fun r2 h2 => ?_)
    refine z_if_eq rfl ?_ ?_
    · refine z_iconst rfl rfl ?_
      exact z_zret0 rfl rfl
    · refine z_aload_n rfl rfl ?_
      refine z_iconst rfl rfl ?_
      refine z_iconst rfl rfl ?_
      refine z_V2i ko5 mv_X5_202 kd_76 (t_X5_readsRow _ _ _) rfl rfl rfl rfl rfl (fun r3 h3 => ?_)
      refine z_if_eq rfl ?_ ?_
      · refine z_iconst rfl rfl ?_
        exact z_zret0 rfl rfl
      · refine z_aload_n rfl rfl ?_
        refine z_bipush rfl rfl ?_
        refine z_V1i ko5 mv_X5_179 kd_76 (t_X5_takes _ _) rfl rfl rfl rfl rfl (fun r4 h4 => ?_)
        refine z_if_eq rfl ?_ ?_
        · refine z_iconst rfl rfl ?_
          exact z_zret0 rfl rfl
        · refine z_iconst rfl rfl ?_
          refine z_goto rfl ?_
          exact z_zret1 rfl rfl
  refine Z.ite (fun e9 => ?_) (fun e9 => ?_)
  · refine z_look (tg := 17) rfl rfl (o := 52) (by rw [e9]; rfl) rfl ?_
    refine z_aload_n rfl rfl ?_
    refine z_ldc2 cst_X5_196 rfl ?_
    refine z_V1i ko5 mv_X5_198 kd_76 (t_X5_takesWord _ _) rfl rfl rfl rfl rfl (fun r6 h6 => ?_)
    refine z_if_eq rfl ?_ ?_
    · refine z_iconst rfl rfl ?_
      exact z_zret0 rfl rfl
    · refine z_aload_n rfl rfl ?_
      refine z_iconst rfl rfl ?_
      refine z_iconst rfl rfl ?_
      refine z_V2i ko5 mv_X5_202 kd_76 (t_X5_readsRow _ _ _) rfl rfl rfl rfl rfl (fun r7 h7 => ?_)
      refine z_if_eq rfl ?_ ?_
      · refine z_iconst rfl rfl ?_
        exact z_zret0 rfl rfl
      · refine z_aload_n rfl rfl ?_
        refine z_bipush rfl rfl ?_
        refine z_V1i ko5 mv_X5_179 kd_76 (t_X5_takes _ _) rfl rfl rfl rfl rfl (fun r8 h8 => ?_)
        refine z_if_eq rfl ?_ ?_
        · refine z_iconst rfl rfl ?_
          exact z_zret0 rfl rfl
        · refine z_iconst rfl rfl ?_
          refine z_goto rfl ?_
          exact z_zret1 rfl rfl
  refine Z.ite (fun e12 => ?_) (fun e12 => ?_)
  · refine z_look (tg := 85) rfl rfl (o := 188) (by rw [e12]; rfl) rfl ?_
    refine z_aload_n rfl rfl ?_
    refine z_ldc2 cst_X5_211 rfl ?_
    refine z_V1i ko5 mv_X5_198 kd_76 (t_X5_takesWord _ _) rfl rfl rfl rfl rfl (fun r10 h10 => ?_)
    refine z_if_eq rfl ?_ ?_
    · refine z_iconst rfl rfl ?_
      exact z_zret0 rfl rfl
    · refine z_aload_n rfl rfl ?_
      refine z_bipush rfl rfl ?_
      refine z_V1i ko5 mv_X5_179 kd_76 (t_X5_takes _ _) rfl rfl rfl rfl rfl (fun r11 h11 => ?_)
      refine z_if_eq rfl ?_ ?_
      · refine z_iconst rfl rfl ?_
        exact z_zret0 rfl rfl
      · refine z_iconst rfl rfl ?_
        refine z_goto rfl ?_
        exact z_zret1 rfl rfl
  refine Z.ite (fun e16 => ?_) (fun e16 => ?_)
  · refine z_look (tg := 51) rfl rfl (o := 120) (by rw [e16]; rfl) rfl ?_
    refine z_aload_n rfl rfl ?_
    refine z_ldc2 cst_X5_207 rfl ?_
    refine z_V1i ko5 mv_X5_198 kd_76 (t_X5_takesWord _ _) rfl rfl rfl rfl rfl (fun r13 h13 => ?_)
    refine z_if_eq rfl ?_ ?_
    · refine z_iconst rfl rfl ?_
      exact z_zret0 rfl rfl
    · refine z_aload_n rfl rfl ?_
      refine z_iconst rfl rfl ?_
      refine z_iconst rfl rfl ?_
      refine z_V2i ko5 mv_X5_202 kd_76 (t_X5_readsRow _ _ _) rfl rfl rfl rfl rfl (fun r14 h14 => ?_)
      refine z_if_eq rfl ?_ ?_
      · refine z_iconst rfl rfl ?_
        exact z_zret0 rfl rfl
      · refine z_aload_n rfl rfl ?_
        refine z_bipush rfl rfl ?_
        refine z_V1i ko5 mv_X5_179 kd_76 (t_X5_takes _ _) rfl rfl rfl rfl rfl (fun r15 h15 => ?_)
        refine z_if_eq rfl ?_ ?_
        · refine z_iconst rfl rfl ?_
          exact z_zret0 rfl rfl
        · refine z_iconst rfl rfl ?_
          refine z_goto rfl ?_
          exact z_zret1 rfl rfl
  refine Z.ite (fun e20 => ?_) (fun e20 => ?_)
  · refine z_look (tg := 68) rfl rfl (o := 154) (by rw [e20]; rfl) rfl ?_
    refine z_aload_n rfl rfl ?_
    refine z_ldc2 cst_X5_209 rfl ?_
    refine z_V1i ko5 mv_X5_198 kd_76 (t_X5_takesWord _ _) rfl rfl rfl rfl rfl (fun r17 h17 => ?_)
    refine z_if_eq rfl ?_ ?_
    · refine z_iconst rfl rfl ?_
      exact z_zret0 rfl rfl
    · refine z_aload_n rfl rfl ?_
      refine z_iconst rfl rfl ?_
      refine z_iconst rfl rfl ?_
      refine z_V2i ko5 mv_X5_202 kd_76 (t_X5_readsRow _ _ _) rfl rfl rfl rfl rfl (fun r18 h18 => ?_)
      refine z_if_eq rfl ?_ ?_
      · refine z_iconst rfl rfl ?_
        exact z_zret0 rfl rfl
      · refine z_aload_n rfl rfl ?_
        refine z_bipush rfl rfl ?_
        refine z_V1i ko5 mv_X5_179 kd_76 (t_X5_takes _ _) rfl rfl rfl rfl rfl (fun r19 h19 => ?_)
        refine z_if_eq rfl ?_ ?_
        · refine z_iconst rfl rfl ?_
          exact z_zret0 rfl rfl
        · refine z_iconst rfl rfl ?_
          refine z_goto rfl ?_
          exact z_zret1 rfl rfl
  refine z_look (tg := 97) rfl rfl (o := 213) (by simp only [Op.lookupswitch.offset]; rw [if_neg (fun q => e5 q.symm)]; rw [if_neg (fun q => e9 q.symm)]; rw [if_neg (fun q => e12 q.symm)]; rw [if_neg (fun q => e16 q.symm)]; rw [if_neg (fun q => e20 q.symm)]) rfl ?_
  refine z_iconst rfl rfl ?_
  exact z_zret0 rfl rfl
set_option maxRecDepth 20000 in
set_option maxHeartbeats 1000000 in
theorem t_X5_readsOrder  (h : Hp) : Ct M_X5_readsOrder [vr 76] h (f_X5_readsOrder  h) := by
  refine Ct.mk ok_X5_readsOrder pl_X5_readsOrder rfl rfl ?_
  show Z M_X5_readsOrder 0 [some (vr 76)] [] h (f_X5_readsOrder  h)
  unfold f_X5_readsOrder
  refine z_aload_n rfl rfl ?_
  refine z_aload_n rfl rfl ?_
  refine z_getI rfl fl_X5_174 rfl kd_76 ?_
  refine z_aload_n rfl rfl ?_
  refine z_getI rfl fl_X5_171 rfl kd_76 ?_
  refine z_icmp_ge rfl ?_ ?_
  · refine z_iconst rfl rfl ?_
    refine Z.weak ?_ (t_X5_readsOrder_J13  _  _)
    exact wkL_c (wkL_nil _)
  · refine z_aload_n rfl rfl ?_
    refine z_getRn (m := 78) rfl fl_X5_13 rfl kd_76 rfl ?_
    refine z_aload_n rfl rfl ?_
    refine z_getI rfl fl_X5_174 rfl kd_76 ?_
    refine z_iaload rfl kd_78 ?_
    refine z_goto rfl ?_
    refine Z.weak ?_ (t_X5_readsOrder_J13  _  _)
    exact wkL_c (wkL_nil _)
set_option maxRecDepth 20000 in
set_option maxHeartbeats 1000000 in
theorem t_X5_looks_J57 (c12 : Int → Hp → Option (Int × Hp)) (x1 : Int) (s1 : Int) (hc12 : ∀ (y1 : Int) (h : Hp), Z M_X5_looks 12 [some (vr 76), some (vi y1), none, none, none] [] h (c12 y1 h)) (h : Hp) : Z M_X5_looks 57 [some (vr 76), some (vi x1), none, none, none] [vi s1, vr 76] h (f_X5_looks_J57 c12 x1 s1 h) := by
  unfold f_X5_looks_J57
  refine z_putL fi_X5_225 rfl kd_76 rfl (fun h8 => ?_)
  refine z_iload_n rfl rfl ?_
  refine z_aload_n rfl rfl ?_
  refine z_getI rfl fl_X5_213 rfl kd_76 ?_
  refine z_if_ne rfl ?_ ?_
  · refine z_iconst rfl rfl ?_
    refine z_iadd rfl ?_
    refine z_istore_nL rfl rfl (fun y9 => ?_)
    refine z_goto rfl ?_
    refine Z.weak ?_ (hc12 _ _)
    exact wkL_c (wkL_c (wkL_n (wkL_n (wkL_n (wkL_nil _)))))
  · refine z_iconst rfl rfl ?_
    refine z_goto rfl ?_
    refine z_iadd rfl ?_
    refine z_istore_nL rfl rfl (fun y10 => ?_)
    refine z_goto rfl ?_
    refine Z.weak ?_ (hc12 _ _)
    exact wkL_c (wkL_c (wkL_n (wkL_n (wkL_n (wkL_nil _)))))
set_option maxRecDepth 20000 in
set_option maxHeartbeats 1000000 in
theorem t_X5_looks_J44 (c12 : Int → Hp → Option (Int × Hp)) (x1 : Int) (x2 : Int) (x3 : Int) (x4 : Int) (s1 : Int) (hc12 : ∀ (y1 : Int) (h : Hp), Z M_X5_looks 12 [some (vr 76), some (vi y1), none, none, none] [] h (c12 y1 h)) (h : Hp) : Z M_X5_looks 44 [some (vr 76), some (vi x1), some (vi x2), some (vi x3), some (vi x4)] [vi s1, vr 76] h (f_X5_looks_J44 c12 x1 x2 x3 x4 s1 h) := by
  unfold f_X5_looks_J44
  refine z_putL fi_X5_213 rfl kd_76 rfl (fun h6 => ?_)
  refine z_aload_n rfl rfl ?_
  refine z_iload_n rfl rfl ?_
  refine z_putL fi_X5_222 rfl kd_76 rfl (fun h7 => ?_)
  refine z_aload_n rfl rfl ?_
  refine z_iload_n rfl rfl ?_
  refine z_if_eq rfl ?_ ?_
  · refine z_aload_n rfl rfl ?_
    refine z_getI rfl fl_X5_174 rfl kd_76 ?_
    refine z_iload_n rfl rfl ?_
    refine z_isub rfl ?_
    refine Z.weak ?_ (t_X5_looks_J57  _ _ _ hc12 _)
    exact wkL_c (wkL_c (wkL_n (wkL_n (wkL_n (wkL_nil _)))))
  · refine z_iload rfl rfl ?_
    refine z_goto rfl ?_
    refine Z.weak ?_ (t_X5_looks_J57  _ _ _ hc12 _)
    exact wkL_c (wkL_c (wkL_n (wkL_n (wkL_n (wkL_nil _)))))
set_option maxRecDepth 20000 in
set_option maxHeartbeats 1000000 in
theorem t_X5_looks_J33 (c12 : Int → Hp → Option (Int × Hp)) (x1 : Int) (x2 : Int) (x3 : Int) (s0 : Int) (hc12 : ∀ (y1 : Int) (h : Hp), Z M_X5_looks 12 [some (vr 76), some (vi y1), none, none, none] [] h (c12 y1 h)) (h : Hp) : Z M_X5_looks 33 [some (vr 76), some (vi x1), some (vi x2), some (vi x3), none] [vi s0] h (f_X5_looks_J33 c12 x1 x2 x3 s0 h) := by
  unfold f_X5_looks_J33
  refine z_istore rfl rfl ?_
  refine z_aload_n rfl rfl ?_
  refine z_iload_n rfl rfl ?_
  refine z_if_ne rfl ?_ ?_
  · refine z_iload rfl rfl ?_
    refine z_if_ge rfl ?_ ?_
    · refine z_iconst rfl rfl ?_
      refine Z.weak ?_ (t_X5_looks_J44  _ _ _ _ _ _ hc12 _)
      exact wkL_c (wkL_c (wkL_c (wkL_c (wkL_c (wkL_nil _)))))
    · refine z_iconst rfl rfl ?_
      refine z_goto rfl ?_
      refine Z.weak ?_ (t_X5_looks_J44  _ _ _ _ _ _ hc12 _)
      exact wkL_c (wkL_c (wkL_c (wkL_c (wkL_c (wkL_nil _)))))
  · refine z_iconst rfl rfl ?_
    refine z_goto rfl ?_
    refine Z.weak ?_ (t_X5_looks_J44  _ _ _ _ _ _ hc12 _)
    exact wkL_c (wkL_c (wkL_c (wkL_c (wkL_c (wkL_nil _)))))
set_option maxRecDepth 20000 in
set_option maxHeartbeats 1000000 in
theorem t_X5_looks_L12  : ∀ (n : Nat) (x1 : Int) (h : Hp), Z M_X5_looks 12 [some (vr 76), some (vi x1), none, none, none] [] h (f_X5_looks_L12  n x1 h) := by
  intro n
  induction n with
  | zero => intro x1 h; exact Z.nix
  | succ n ih =>
    intro x1 h
    rw [f_X5_looks_L12_s]
    refine z_aload_n rfl rfl ?_
    refine z_getI rfl fl_X5_213 rfl kd_76 ?_
    refine z_if_ne rfl ?_ ?_
    · refine z_iload_n rfl rfl ?_
      exact z_ireturn rfl rfl
    · refine z_aload_n rfl rfl ?_
      refine z_getI rfl fl_X5_174 rfl kd_76 ?_
      refine z_aload_n rfl rfl ?_
      refine z_getI rfl fl_X5_171 rfl kd_76 ?_
      refine z_icmp_ge rfl ?_ ?_
      · refine z_iload_n rfl rfl ?_
        exact z_ireturn rfl rfl
      · refine z_aload_n rfl rfl ?_
        refine z_getI rfl fl_X5_174 rfl kd_76 ?_
        refine z_istore_nL rfl rfl (fun y4 => ?_)
        refine z_aload_n rfl rfl ?_
        refine z_V0i ko5 mv_X5_216 kd_76 (t_X5_readsOrder  _) rfl rfl rfl rfl rfl (fun r5 h5 => ?_)
        refine z_istore_n rfl rfl ?_
        refine z_iload_n rfl rfl ?_
        refine z_if_eq rfl ?_ ?_
        · refine z_iconst rfl rfl ?_
          refine Z.weak ?_ (t_X5_looks_J33  _ _ _ _ _ ih _)
          exact wkL_c (wkL_c (wkL_c (wkL_c (wkL_n (wkL_nil _)))))
        · refine z_aload_n rfl rfl ?_
          refine z_sipush rfl rfl ?_
          refine z_V1i ko5 mv_X5_219 kd_76 (t_X5_does _ _) rfl rfl rfl rfl rfl (fun r11 h11 => ?_)
          refine z_goto rfl ?_
          refine Z.weak ?_ (t_X5_looks_J33  _ _ _ _ _ ih _)
          exact wkL_c (wkL_c (wkL_c (wkL_c (wkL_n (wkL_nil _)))))
set_option maxRecDepth 20000 in
set_option maxHeartbeats 1000000 in
theorem t_X5_looks  (h : Hp) : Ct M_X5_looks [vr 76] h (f_X5_looks  h) := by
  refine Ct.mk ok_X5_looks pl_X5_looks rfl rfl ?_
  show Z M_X5_looks 0 [some (vr 76), none, none, none, none] [] h (f_X5_looks  h)
  unfold f_X5_looks
  refine z_aload_n rfl rfl ?_
  refine z_iconst rfl rfl ?_
  refine z_bipush rfl rfl ?_
  refine z_V2v ko5 mv_X5_35 kd_76 (t_X5_copies _ _ _) rfl rfl rfl rfl rfl (fun _ h1 => ?_)
  refine z_aload_n rfl rfl ?_
  refine z_iconst rfl rfl ?_
  refine z_putL fi_X5_174 rfl kd_76 rfl (fun h2 => ?_)
  refine z_aload_n rfl rfl ?_
  refine z_iconst rfl rfl ?_
  refine z_putL fi_X5_213 rfl kd_76 rfl (fun h3 => ?_)
  refine z_iconst rfl rfl ?_
  refine z_istore_n rfl rfl ?_
  refine Z.weak ?_ (t_X5_looks_L12      fu _ _)
  · exact wkL_c (wkL_c (wkL_n (wkL_n (wkL_n (wkL_nil _)))))
set_option maxRecDepth 20000 in
set_option maxHeartbeats 1000000 in
theorem t_X5_fault (x1 : Int) (h : Hp) : Ct M_X5_fault [vr 76, vi x1] h (f_X5_fault x1 h) := by
  refine Ct.mk ok_X5_fault pl_X5_fault rfl rfl ?_
  show Z M_X5_fault 0 [some (vr 76), some (vi x1), none] [] h (f_X5_fault x1 h)
  unfold f_X5_fault
  refine z_iload_n rfl rfl ?_
  refine z_iconst rfl rfl ?_
  refine z_iconst rfl rfl ?_
  refine z_S3i ms_X5_90 (t_X5_in _ _ _ _) rfl rfl rfl rfl (fun r1 h1 => ?_)
  refine z_if_ne rfl ?_ ?_
  · refine z_aload_n rfl rfl ?_
    refine z_V0i ko5 mv_X5_228 kd_76 (t_X5_looks  _) rfl rfl rfl rfl rfl (fun r2 h2 => ?_)
    refine z_istore_n rfl rfl ?_
    refine z_aload_n rfl rfl ?_
    refine z_getI rfl fl_X5_213 rfl kd_76 ?_
    refine z_if_ne rfl ?_ ?_
    · refine z_iload_n rfl rfl ?_
      refine z_if_ne rfl ?_ ?_
      · refine z_iload_n rfl rfl ?_
        refine z_iconst rfl rfl ?_
        refine z_icmp_ne rfl ?_ ?_
        · refine z_aload_n rfl rfl ?_
          refine z_getI rfl fl_X5_225 rfl kd_76 ?_
          exact z_ireturn rfl rfl
        · refine z_aload_n rfl rfl ?_
          refine z_getI rfl fl_X5_213 rfl kd_76 ?_
          refine z_goto rfl ?_
          exact z_ireturn rfl rfl
      · refine z_aload_n rfl rfl ?_
        refine z_getI rfl fl_X5_222 rfl kd_76 ?_
        refine z_goto rfl ?_
        exact z_ireturn rfl rfl
    · refine z_ldc rfl cst_X5_144 rfl ?_
      refine z_goto rfl ?_
      exact z_ireturn rfl rfl
  · refine z_ldc rfl cst_X5_97 rfl ?_
    exact z_ireturn rfl rfl
set_option maxRecDepth 20000 in
set_option maxHeartbeats 1000000 in
theorem t_X5_find (x1 : Int) (x2 : Int) (x3 : Int) (x4 : Int) (h : Hp) : Ct M_X5_find [vr 76, vi x1, vi x2, vi x3, vi x4] h (f_X5_find x1 x2 x3 x4 h) := by
  refine Ct.mk ok_X5_find pl_X5_find rfl rfl ?_
  show Z M_X5_find 0 [some (vr 76), some (vi x1), some (vi x2), some (vi x3), some (vi x4)] [] h (f_X5_find x1 x2 x3 x4 h)
  unfold f_X5_find
  refine z_aload_n rfl rfl ?_
  refine z_aload_n rfl rfl ?_
  refine z_aload_n rfl rfl ?_
  refine z_V0i ko5 mv_X5_117 kd_76 (t_X5_tried  _) rfl rfl rfl rfl rfl (fun r1 h1 => ?_)
  refine z_iload_n rfl rfl ?_
  refine z_iload_n rfl rfl ?_
  refine z_iload_n rfl rfl ?_
  refine z_iload rfl rfl ?_
  refine z_V5i ko5 mv_X5_121 kd_76 (t_X5_finds _ _ _ _ _ _) rfl rfl rfl rfl rfl (fun r2 h2 => ?_)
  refine z_V1i ko5 mv_X5_125 kd_76 (t_X5_done _ _) rfl rfl rfl rfl rfl (fun r3 h3 => ?_)
  exact z_ireturn rfl rfl
set_option maxRecDepth 20000 in
set_option maxHeartbeats 1000000 in
theorem t_X5_hand  (h : Hp) : Ct M_X5_hand [vr 76] h (f_X5_hand  h) := by
  refine Ct.mk ok_X5_hand pl_X5_hand rfl rfl ?_
  show Z M_X5_hand 0 [some (vr 76)] [] h (f_X5_hand  h)
  unfold f_X5_hand
  refine z_aload_n rfl rfl ?_
  refine z_aload_n rfl rfl ?_
  refine z_aload_n rfl rfl ?_
  refine z_V0i ko5 mv_X5_117 kd_76 (t_X5_tried  _) rfl rfl rfl rfl rfl (fun r1 h1 => ?_)
  refine z_V1i ko5 mv_X5_138 kd_76 (t_X5_handsOut _ _) rfl rfl rfl rfl rfl (fun r2 h2 => ?_)
  refine z_V1i ko5 mv_X5_125 kd_76 (t_X5_done _ _) rfl rfl rfl rfl rfl (fun r3 h3 => ?_)
  exact z_ireturn rfl rfl
set_option maxRecDepth 20000 in
set_option maxHeartbeats 1000000 in
theorem t_X5_having (x1 : Int) (x2 : Int) (h : Hp) : Ct M_X5_having [vr 76, vi x1, vi x2] h (f_X5_having x1 x2 h) := by
  refine Ct.mk ok_X5_having pl_X5_having rfl rfl ?_
  show Z M_X5_having 0 [some (vr 76), some (vi x1), some (vi x2)] [] h (f_X5_having x1 x2 h)
  unfold f_X5_having
  refine z_iload_n rfl rfl ?_
  refine z_iload_n rfl rfl ?_
  refine z_S2i ms_X5_108 (t_X5_isDetail _ _ _) rfl rfl rfl rfl (fun r1 h1 => ?_)
  refine z_if_eq rfl ?_ ?_
  · refine z_ldc rfl cst_X5_97 rfl ?_
    exact z_ireturn rfl rfl
  · refine z_aload_n rfl rfl ?_
    refine z_iconst rfl rfl ?_
    refine z_iload_n rfl rfl ?_
    refine z_iload_n rfl rfl ?_
    refine z_V3i ko5 mv_X5_50 kd_76 (t_X5_many _ _ _ _) rfl rfl rfl rfl rfl (fun r2 h2 => ?_)
    refine z_goto rfl ?_
    exact z_ireturn rfl rfl
set_option maxRecDepth 20000 in
set_option maxHeartbeats 1000000 in
theorem t_X5_ifTold (x1 : Int) (x2 : Int) (x3 : Int) (h : Hp) : Ct M_X5_ifTold [vr 76, vi x1, vi x2, vi x3] h (f_X5_ifTold x1 x2 x3 h) := by
  refine Ct.mk ok_X5_ifTold pl_X5_ifTold rfl rfl ?_
  show Z M_X5_ifTold 0 [some (vr 76), some (vi x1), some (vi x2), some (vi x3), none] [] h (f_X5_ifTold x1 x2 x3 h)
  unfold f_X5_ifTold
  refine z_aload_n rfl rfl ?_
  refine z_V0i ko5 mv_X5_117 kd_76 (t_X5_tried  _) rfl rfl rfl rfl rfl (fun r1 h1 => ?_)
  refine z_istore rfl rfl ?_
  refine z_aload_n rfl rfl ?_
  refine z_iload rfl rfl ?_
  refine z_iload_n rfl rfl ?_
  refine z_iload_n rfl rfl ?_
  refine z_iload_n rfl rfl ?_
  refine z_V4i ko5 mv_X5_131 kd_76 (t_X5_tells _ _ _ _ _) rfl rfl rfl rfl rfl (fun r2 h2 => ?_)
  refine z_ldc rfl cst_X5_97 rfl ?_
  refine z_icmp_ne rfl ?_ ?_
  · refine z_aload_n rfl rfl ?_
    refine z_iload rfl rfl ?_
    refine z_iload_n rfl rfl ?_
    refine z_V2i ko5 mv_X5_159 kd_76 (t_X5_matchOf _ _ _) rfl rfl rfl rfl rfl (fun r3 h3 => ?_)
    exact z_ireturn rfl rfl
  · refine z_ldc rfl cst_X5_97 rfl ?_
    refine z_goto rfl ?_
    exact z_ireturn rfl rfl
set_option maxRecDepth 20000 in
set_option maxHeartbeats 1000000 in
theorem t_X5_ifWeeks (x1 : Int) (x2 : Int) (h : Hp) : Ct M_X5_ifWeeks [vr 76, vi x1, vi x2] h (f_X5_ifWeeks x1 x2 h) := by
  refine Ct.mk ok_X5_ifWeeks pl_X5_ifWeeks rfl rfl ?_
  show Z M_X5_ifWeeks 0 [some (vr 76), some (vi x1), some (vi x2), none, none] [] h (f_X5_ifWeeks x1 x2 h)
  unfold f_X5_ifWeeks
  refine z_iload_n rfl rfl ?_
  refine z_iconst rfl rfl ?_
  refine z_bipush rfl rfl ?_
  refine z_S3i ms_X5_90 (t_X5_in _ _ _ _) rfl rfl rfl rfl (fun r1 h1 => ?_)
  refine z_if_eq rfl ?_ ?_
  · refine z_ldc rfl cst_X5_97 rfl ?_
    exact z_ireturn rfl rfl
  · refine z_iload_n rfl rfl ?_
    refine z_iconst rfl rfl ?_
    refine z_iconst rfl rfl ?_
    refine z_S3i ms_X5_90 (t_X5_in _ _ _ _) rfl rfl rfl rfl (fun r2 h2 => ?_)
    refine z_if_ne rfl ?_ ?_
    · refine z_aload_n rfl rfl ?_
      refine z_V0i ko5 mv_X5_117 kd_76 (t_X5_tried  _) rfl rfl rfl rfl rfl (fun r3 h3 => ?_)
      refine z_istore_n rfl rfl ?_
      refine z_aload_n rfl rfl ?_
      refine z_iload_n rfl rfl ?_
      refine z_iload_n rfl rfl ?_
      refine z_V2i ko5 mv_X5_111 kd_76 (t_X5_goBy _ _ _) rfl rfl rfl rfl rfl (fun r4 h4 => ?_)
      refine z_istore rfl rfl ?_
      refine z_iload_n rfl rfl ?_
      refine z_if_ne rfl ?_ ?_
      · refine z_iload_n rfl rfl ?_
        refine z_iconst rfl rfl ?_
        refine z_icmp_ne rfl ?_ ?_
        · refine z_aload_n rfl rfl ?_
          refine z_iload_n rfl rfl ?_
          refine z_V1i ko5 mv_X5_87 kd_76 (t_X5_matches _ _) rfl rfl rfl rfl rfl (fun r5 h5 => ?_)
          exact z_ireturn rfl rfl
        · refine z_aload_n rfl rfl ?_
          refine z_getRn (m := 77) rfl fl_X5_7 rfl kd_76 rfl ?_
          refine z_iload_n rfl rfl ?_
          refine z_bipush rfl rfl ?_
          refine z_iadd rfl ?_
          refine z_iaload rfl kd_77 ?_
          refine z_aload_n rfl rfl ?_
          refine z_getRn (m := 77) rfl fl_X5_7 rfl kd_76 rfl ?_
          refine z_bipush rfl rfl ?_
          refine z_iaload rfl kd_77 ?_
          refine z_isub rfl ?_
          refine z_goto rfl ?_
          exact z_ireturn rfl rfl
      · refine z_iload rfl rfl ?_
        refine z_goto rfl ?_
        exact z_ireturn rfl rfl
    · refine z_ldc rfl cst_X5_97 rfl ?_
      exact z_ireturn rfl rfl
set_option maxRecDepth 20000 in
set_option maxHeartbeats 1000000 in
theorem t_X5_isSetting (x0 : Int) (x1 : Int) (h : Hp) : Ct M_X5_isSetting [vi x0, vi x1] h (f_X5_isSetting x0 x1 h) := by
  refine Ct.mk ok_X5_isSetting pl_X5_isSetting rfl rfl ?_
  show Z M_X5_isSetting 0 [some (vi x0), some (vi x1)] [] h (f_X5_isSetting x0 x1 h)
  unfold f_X5_isSetting
  refine z_iload_n rfl rfl ?_
  refine Z.ite (fun e2 => ?_) (fun e2 => ?_)
  · refine z_table (tg := 2) rfl (o := 43) (by rw [e2]; rfl) rfl ?_
    refine z_iload_n rfl rfl ?_
    refine z_iconst rfl rfl ?_
    refine z_iconst rfl rfl ?_
    refine z_S3i ms_X5_90 (t_X5_in _ _ _ _) rfl rfl rfl rfl (fun r1 h1 => ?_)
    exact z_zret rfl rfl
  refine Z.ite (fun e4 => ?_) (fun e4 => ?_)
  · refine z_table (tg := 7) rfl (o := 50) (by rw [e4]; rfl) rfl ?_
    refine z_iload_n rfl rfl ?_
    refine z_iconst rfl rfl ?_
    refine z_bipush rfl rfl ?_
    refine z_S3i ms_X5_90 (t_X5_in _ _ _ _) rfl rfl rfl rfl (fun r3 h3 => ?_)
    exact z_zret rfl rfl
  refine Z.ite (fun e6 => ?_) (fun e6 => ?_)
  · refine z_table (tg := 7) rfl (o := 50) (by rw [e6]; rfl) rfl ?_
    refine z_iload_n rfl rfl ?_
    refine z_iconst rfl rfl ?_
    refine z_bipush rfl rfl ?_
    refine z_S3i ms_X5_90 (t_X5_in _ _ _ _) rfl rfl rfl rfl (fun r5 h5 => ?_)
    exact z_zret rfl rfl
  refine Z.ite (fun e8 => ?_) (fun e8 => ?_)
  · refine z_table (tg := 12) rfl (o := 58) (by rw [e8]; rfl) rfl ?_
    refine z_iload_n rfl rfl ?_
    refine z_iconst rfl rfl ?_
    refine z_bipush rfl rfl ?_
    refine z_S3i ms_X5_90 (t_X5_in _ _ _ _) rfl rfl rfl rfl (fun r7 h7 => ?_)
    exact z_zret rfl rfl
  refine Z.ite (fun e10 => ?_) (fun e10 => ?_)
  · refine z_table (tg := 17) rfl (o := 66) (by rw [e10]; rfl) rfl ?_
    refine z_iload_n rfl rfl ?_
    refine z_iconst rfl rfl ?_
    refine z_bipush rfl rfl ?_
    refine z_S3i ms_X5_90 (t_X5_in _ _ _ _) rfl rfl rfl rfl (fun r9 h9 => ?_)
    exact z_zret rfl rfl
  refine Z.ite (fun e12 => ?_) (fun e12 => ?_)
  · refine z_table (tg := 22) rfl (o := 74) (by rw [e12]; rfl) rfl ?_
    refine z_iload_n rfl rfl ?_
    refine z_iconst rfl rfl ?_
    refine z_bipush rfl rfl ?_
    refine z_S3i ms_X5_90 (t_X5_in _ _ _ _) rfl rfl rfl rfl (fun r11 h11 => ?_)
    exact z_zret rfl rfl
  refine Z.ite (fun e14 => ?_) (fun e14 => ?_)
  · refine z_table (tg := 22) rfl (o := 74) (by rw [e14]; rfl) rfl ?_
    refine z_iload_n rfl rfl ?_
    refine z_iconst rfl rfl ?_
    refine z_bipush rfl rfl ?_
    refine z_S3i ms_X5_90 (t_X5_in _ _ _ _) rfl rfl rfl rfl (fun r13 h13 => ?_)
    exact z_zret rfl rfl
  refine z_table (tg := 27) rfl (o := 82) (if_pos (by omega)) rfl ?_
  refine z_iconst rfl rfl ?_
  exact z_zret0 rfl rfl
set_option maxRecDepth 20000 in
set_option maxHeartbeats 1000000 in
theorem t_X5_isUmbrella (x1 : Int) (h : Hp) : Ct M_X5_isUmbrella [vr 76, vi x1] h (f_X5_isUmbrella x1 h) := by
  refine Ct.mk ok_X5_isUmbrella pl_X5_isUmbrella rfl rfl ?_
  show Z M_X5_isUmbrella 0 [some (vr 76), some (vi x1)] [] h (f_X5_isUmbrella x1 h)
  unfold f_X5_isUmbrella
  refine z_iload_n rfl rfl ?_
  refine z_iconst rfl rfl ?_
  refine z_aload_n rfl rfl ?_
  refine z_getRn (m := 77) rfl fl_X5_7 rfl kd_76 rfl ?_
  refine z_bipush rfl rfl ?_
  refine z_iaload rfl kd_77 ?_
  refine z_iconst rfl rfl ?_
  refine z_isub rfl ?_
  refine z_S3i ms_X5_90 (t_X5_in _ _ _ _) rfl rfl rfl rfl (fun r1 h1 => ?_)
  exact z_zret rfl rfl
set_option maxRecDepth 20000 in
set_option maxHeartbeats 1000000 in
theorem t_X5_mateOf (x1 : Int) (x2 : Int) (h : Hp) : Ct M_X5_mateOf [vr 76, vi x1, vi x2] h (f_X5_mateOf x1 x2 h) := by
  refine Ct.mk ok_X5_mateOf pl_X5_mateOf rfl rfl ?_
  show Z M_X5_mateOf 0 [some (vr 76), some (vi x1), some (vi x2), none, none] [] h (f_X5_mateOf x1 x2 h)
  unfold f_X5_mateOf
  refine z_aload_n rfl rfl ?_
  refine z_iconst rfl rfl ?_
  refine z_V1i ko5 mv_X5_87 kd_76 (t_X5_matches _ _) rfl rfl rfl rfl rfl (fun r1 h1 => ?_)
  refine z_istore_n rfl rfl ?_
  refine z_aload_n rfl rfl ?_
  refine z_getRn (m := 79) rfl fl_X5_16 rfl kd_76 rfl ?_
  refine z_iload_n rfl rfl ?_
  refine z_iaload rfl kd_79 ?_
  refine z_istoreL rfl rfl (fun y2 => ?_)
  refine z_iload rfl rfl ?_
  refine z_iconst rfl rfl ?_
  refine z_icmp_ne rfl ?_ ?_
  · refine z_iload_n rfl rfl ?_
    refine z_if_eq rfl ?_ ?_
    · refine z_aload_n rfl rfl ?_
      refine z_iconst rfl rfl ?_
      refine z_iload_n rfl rfl ?_
      refine z_iload rfl rfl ?_
      refine z_V3i ko5 mv_X5_53 kd_76 (t_X5_pointsOf _ _ _ _) rfl rfl rfl rfl rfl (fun r3 h3 => ?_)
      exact z_ireturn rfl rfl
    · refine z_iload rfl rfl ?_
      refine z_goto rfl ?_
      exact z_ireturn rfl rfl
  · refine z_ldc rfl cst_X5_144 rfl ?_
    refine z_goto rfl ?_
    exact z_ireturn rfl rfl
set_option maxRecDepth 20000 in
set_option maxHeartbeats 1000000 in
theorem t_X5_mean_L8 (x1 : Int) (c35 : Int → Hp → Option (Int × Hp)) (hc35 : ∀ (y2 : Int) (h : Hp), Z M_X5_mean 35 [none, some (vi x1), some (vi y2), none] [] h (c35 y2 h)) : ∀ (n : Nat) (x2 : Int) (x3 : Int) (h : Hp), Z M_X5_mean 8 [some (vr 76), some (vi x1), some (vi x2), some (vi x3)] [] h (f_X5_mean_L8 x1 c35 n x2 x3 h) := by
  intro n
  induction n with
  | zero => intro x2 x3 h; exact Z.nix
  | succ n ih =>
    intro x2 x3 h
    rw [f_X5_mean_L8_s]
    refine z_iload_n rfl rfl ?_
    refine z_bipush rfl rfl ?_
    refine z_icmp_ge rfl ?_ ?_
    · refine Z.weak ?_ (hc35 _ _)
      exact wkL_n (wkL_c (wkL_c (wkL_n (wkL_nil _))))
    · refine z_iload_n rfl rfl ?_
      refine z_aload_n rfl rfl ?_
      refine z_getRn (m := 79) rfl fl_X5_16 rfl kd_76 rfl ?_
      refine z_iload_n rfl rfl ?_
      refine z_iaload rfl kd_79 ?_
      refine z_iconst rfl rfl ?_
      refine z_icmp_ne rfl ?_ ?_
      · refine z_aload_n rfl rfl ?_
        refine z_getRn (m := 81) rfl fl_X5_22 rfl kd_76 rfl ?_
        refine z_bipush rfl rfl ?_
        refine z_iload_n rfl rfl ?_
        refine z_imul rfl ?_
        refine z_aload_n rfl rfl ?_
        refine z_getRn (m := 79) rfl fl_X5_16 rfl kd_76 rfl ?_
        refine z_iload_n rfl rfl ?_
        refine z_iaload rfl kd_79 ?_
        refine z_iadd rfl ?_
        refine z_iaload rfl kd_81 ?_
        refine z_iadd rfl ?_
        refine z_istore_nL rfl rfl (fun y2 => ?_)
        refine z_iinc rfl rfl rfl ?_
        refine z_goto rfl ?_
        refine Z.weak ?_ (ih _ _ _)
        exact wkL_c (wkL_c (wkL_c (wkL_c (wkL_nil _))))
      · refine z_iconst rfl rfl ?_
        refine z_goto rfl ?_
        refine z_iadd rfl ?_
        refine z_istore_nL rfl rfl (fun y3 => ?_)
        refine z_iinc rfl rfl rfl ?_
        refine z_goto rfl ?_
        refine Z.weak ?_ (ih _ _ _)
        exact wkL_c (wkL_c (wkL_c (wkL_c (wkL_nil _))))
set_option maxRecDepth 20000 in
set_option maxHeartbeats 1000000 in
theorem t_X5_mean  (h : Hp) : Ct M_X5_mean [vr 76] h (f_X5_mean  h) := by
  refine Ct.mk ok_X5_mean pl_X5_mean rfl rfl ?_
  show Z M_X5_mean 0 [some (vr 76), none, none, none] [] h (f_X5_mean  h)
  unfold f_X5_mean
  refine z_aload_n rfl rfl ?_
  refine z_iconst rfl rfl ?_
  refine z_V1i ko5 mv_X5_87 kd_76 (t_X5_matches _ _) rfl rfl rfl rfl rfl (fun r1 h1 => ?_)
  refine z_istore_n rfl rfl ?_
  refine z_iconst rfl rfl ?_
  refine z_istore_n rfl rfl ?_
  refine z_iconst rfl rfl ?_
  refine z_istore_n rfl rfl ?_
  refine Z.weak ?_ (t_X5_mean_L8  _  _  ?_  fu _ _ _)
  · exact wkL_c (wkL_c (wkL_c (wkL_c (wkL_nil _))))
  · intro y4 h5
    refine z_iload_n rfl rfl ?_
    refine z_if_ne rfl ?_ ?_
    · refine z_iload_n rfl rfl ?_
      refine z_i2f rfl ?_
      refine z_iload_n rfl rfl ?_
      refine z_i2f rfl ?_
      refine z_fdiv rfl ?_
      refine z_S1i ms_X5_162 (t_J_floatToIntBits _ _) rfl rfl rfl rfl (fun r6 h6 => ?_)
      exact z_ireturn rfl rfl
    · refine z_ldc rfl cst_X5_144 rfl ?_
      refine z_goto rfl ?_
      exact z_ireturn rfl rfl
set_option maxRecDepth 20000 in
set_option maxHeartbeats 1000000 in
theorem t_X5_oddness_L4 (x1 : Int) : ∀ (n : Nat) (x2 : Int) (x3 : Int) (h : Hp), Z M_X5_oddness 4 [some (vr 76), some (vi x1), some (vi x2), some (vi x3)] [] h (f_X5_oddness_L4 x1 n x2 x3 h) := by
  intro n
  induction n with
  | zero => intro x2 x3 h; exact Z.nix
  | succ n ih =>
    intro x2 x3 h
    rw [f_X5_oddness_L4_s]
    refine z_iload_n rfl rfl ?_
    refine z_iconst rfl rfl ?_
    refine z_icmp_ge rfl ?_ ?_
    · refine z_iload_n rfl rfl ?_
      exact z_ireturn rfl rfl
    · refine z_iload_n rfl rfl ?_
      refine z_bipush rfl rfl ?_
      refine z_aload_n rfl rfl ?_
      refine z_iconst rfl rfl ?_
      refine z_iload_n rfl rfl ?_
      refine z_aload_n rfl rfl ?_
      refine z_getRn (m := 77) rfl fl_X5_7 rfl kd_76 rfl ?_
      refine z_iconst rfl rfl ?_
      refine z_iload_n rfl rfl ?_
      refine z_S2i ms_X5_39 (t_X5_umbrellaAt _ _ _) rfl rfl rfl rfl (fun r1 h1 => ?_)
      refine z_iload_n rfl rfl ?_
      refine z_iadd rfl ?_
      refine z_iaload rfl kd_77 ?_
      refine z_V3i ko5 mv_X5_50 kd_76 (t_X5_many _ _ _ _) rfl rfl rfl rfl rfl (fun r2 h2 => ?_)
      refine z_isub rfl ?_
      refine z_iadd rfl ?_
      refine z_istore_nL rfl rfl (fun y3 => ?_)
      refine z_iinc rfl rfl rfl ?_
      refine z_goto rfl ?_
      refine Z.weak ?_ (ih _ _ _)
      exact wkL_c (wkL_c (wkL_c (wkL_c (wkL_nil _))))
set_option maxRecDepth 20000 in
set_option maxHeartbeats 1000000 in
theorem t_X5_oddness (x1 : Int) (h : Hp) : Ct M_X5_oddness [vr 76, vi x1] h (f_X5_oddness x1 h) := by
  refine Ct.mk ok_X5_oddness pl_X5_oddness rfl rfl ?_
  show Z M_X5_oddness 0 [some (vr 76), some (vi x1), none, none] [] h (f_X5_oddness x1 h)
  unfold f_X5_oddness
  refine z_iconst rfl rfl ?_
  refine z_istore_n rfl rfl ?_
  refine z_iconst rfl rfl ?_
  refine z_istore_n rfl rfl ?_
  refine Z.weak ?_ (t_X5_oddness_L4  _     fu _ _ _)
  · exact wkL_c (wkL_c (wkL_c (wkL_c (wkL_nil _))))
set_option maxRecDepth 20000 in
set_option maxHeartbeats 1000000 in
theorem t_X5_oddest_L4  : ∀ (n : Nat) (x1 : Int) (x2 : Int) (h : Hp), Z M_X5_oddest 4 [some (vr 76), some (vi x1), some (vi x2)] [] h (f_X5_oddest_L4  n x1 x2 h) := by
  intro n
  induction n with
  | zero => intro x1 x2 h; exact Z.nix
  | succ n ih =>
    intro x1 x2 h
    rw [f_X5_oddest_L4_s]
    refine z_iload_n rfl rfl ?_
    refine z_aload_n rfl rfl ?_
    refine z_getRn (m := 77) rfl fl_X5_7 rfl kd_76 rfl ?_
    refine z_bipush rfl rfl ?_
    refine z_iaload rfl kd_77 ?_
    refine z_icmp_ge rfl ?_ ?_
    · refine z_iload_n rfl rfl ?_
      exact z_ireturn rfl rfl
    · refine z_iload_n rfl rfl ?_
      refine z_ldc rfl cst_X5_144 rfl ?_
      refine z_icmp_eq rfl ?_ ?_
      · refine z_iload_n rfl rfl ?_
        refine z_goto rfl ?_
        refine z_istore_n rfl rfl ?_
        refine z_iinc rfl rfl rfl ?_
        refine z_goto rfl ?_
        refine Z.weak ?_ (ih _ _ _)
        exact wkL_c (wkL_c (wkL_c (wkL_nil _)))
      · refine z_aload_n rfl rfl ?_
        refine z_iload_n rfl rfl ?_
        refine z_V1i ko5 mv_X5_156 kd_76 (t_X5_oddness _ _) rfl rfl rfl rfl rfl (fun r1 h1 => ?_)
        refine z_aload_n rfl rfl ?_
        refine z_iload_n rfl rfl ?_
        refine z_V1i ko5 mv_X5_156 kd_76 (t_X5_oddness _ _) rfl rfl rfl rfl rfl (fun r2 h2 => ?_)
        refine z_icmp_le rfl ?_ ?_
        · refine z_iload_n rfl rfl ?_
          refine z_istore_n rfl rfl ?_
          refine z_iinc rfl rfl rfl ?_
          refine z_goto rfl ?_
          refine Z.weak ?_ (ih _ _ _)
          exact wkL_c (wkL_c (wkL_c (wkL_nil _)))
        · refine z_iload_n rfl rfl ?_
          refine z_goto rfl ?_
          refine z_istore_n rfl rfl ?_
          refine z_iinc rfl rfl rfl ?_
          refine z_goto rfl ?_
          refine Z.weak ?_ (ih _ _ _)
          exact wkL_c (wkL_c (wkL_c (wkL_nil _)))
set_option maxRecDepth 20000 in
set_option maxHeartbeats 1000000 in
theorem t_X5_oddest  (h : Hp) : Ct M_X5_oddest [vr 76] h (f_X5_oddest  h) := by
  refine Ct.mk ok_X5_oddest pl_X5_oddest rfl rfl ?_
  show Z M_X5_oddest 0 [some (vr 76), none, none] [] h (f_X5_oddest  h)
  unfold f_X5_oddest
  refine z_ldc rfl cst_X5_144 rfl ?_
  refine z_istore_n rfl rfl ?_
  refine z_iconst rfl rfl ?_
  refine z_istore_n rfl rfl ?_
  refine Z.weak ?_ (t_X5_oddest_L4      fu _ _ _)
  · exact wkL_c (wkL_c (wkL_c (wkL_nil _)))
set_option maxRecDepth 20000 in
set_option maxHeartbeats 1000000 in
theorem t_X5_play  (h : Hp) : Ct M_X5_play [vr 76] h (f_X5_play  h) := by
  refine Ct.mk ok_X5_play pl_X5_play rfl rfl ?_
  show Z M_X5_play 0 [some (vr 76), none] [] h (f_X5_play  h)
  unfold f_X5_play
  refine z_aload_n rfl rfl ?_
  refine z_V0i ko5 mv_X5_228 kd_76 (t_X5_looks  _) rfl rfl rfl rfl rfl (fun r1 h1 => ?_)
  refine z_istore_n rfl rfl ?_
  refine z_aload_n rfl rfl ?_
  refine z_getI rfl fl_X5_213 rfl kd_76 ?_
  refine z_if_le rfl ?_ ?_
  · refine z_aload_n rfl rfl ?_
    refine z_V0v ko5 mv_X5_114 kd_76 (t_X5_records  _) rfl rfl rfl rfl rfl (fun _ h2 => ?_)
    refine z_aload_n rfl rfl ?_
    refine z_bipush rfl rfl ?_
    refine z_iconst rfl rfl ?_
    refine z_V2v ko5 mv_X5_35 kd_76 (t_X5_copies _ _ _) rfl rfl rfl rfl rfl (fun _ h3 => ?_)
    refine z_iload_n rfl rfl ?_
    exact z_ireturn rfl rfl
  · refine z_ldc rfl cst_X5_103 rfl ?_
    exact z_ireturn rfl rfl
set_option maxRecDepth 20000 in
set_option maxHeartbeats 1000000 in
theorem t_X5_points (x1 : Int) (x2 : Int) (h : Hp) : Ct M_X5_points [vr 76, vi x1, vi x2] h (f_X5_points x1 x2 h) := by
  refine Ct.mk ok_X5_points pl_X5_points rfl rfl ?_
  show Z M_X5_points 0 [some (vr 76), some (vi x1), some (vi x2)] [] h (f_X5_points x1 x2 h)
  unfold f_X5_points
  refine z_aload_n rfl rfl ?_
  refine z_iload_n rfl rfl ?_
  refine z_V1i ko5 mv_X5_145 kd_76 (t_X5_isUmbrella _ _) rfl rfl rfl rfl rfl (fun r1 h1 => ?_)
  refine z_if_eq rfl ?_ ?_
  · refine z_ldc rfl cst_X5_97 rfl ?_
    exact z_ireturn rfl rfl
  · refine z_aload_n rfl rfl ?_
    refine z_iconst rfl rfl ?_
    refine z_iload_n rfl rfl ?_
    refine z_V2i ko5 mv_X5_104 kd_76 (t_X5_isClaim _ _ _) rfl rfl rfl rfl rfl (fun r2 h2 => ?_)
    refine z_if_eq rfl ?_ ?_
    · refine z_ldc rfl cst_X5_97 rfl ?_
      exact z_ireturn rfl rfl
    · refine z_sipush rfl rfl ?_
      refine z_aload_n rfl rfl ?_
      refine z_iconst rfl rfl ?_
      refine z_iload_n rfl rfl ?_
      refine z_iload_n rfl rfl ?_
      refine z_V3i ko5 mv_X5_53 kd_76 (t_X5_pointsOf _ _ _ _) rfl rfl rfl rfl rfl (fun r3 h3 => ?_)
      refine z_iadd rfl ?_
      refine z_goto rfl ?_
      exact z_ireturn rfl rfl
set_option maxRecDepth 20000 in
set_option maxHeartbeats 1000000 in
theorem t_X5_set (x1 : Int) (x2 : Int) (h : Hp) : Ct M_X5_set [vr 76, vi x1, vi x2] h (f_X5_set x1 x2 h) := by
  refine Ct.mk ok_X5_set pl_X5_set rfl rfl ?_
  show Z M_X5_set 0 [some (vr 76), some (vi x1), some (vi x2), none] [] h (f_X5_set x1 x2 h)
  unfold f_X5_set
  refine z_iload_n rfl rfl ?_
  refine z_iload_n rfl rfl ?_
  refine z_S2i ms_X5_141 (t_X5_isSetting _ _ _) rfl rfl rfl rfl (fun r1 h1 => ?_)
  refine z_if_ne rfl ?_ ?_
  · refine z_aload_n rfl rfl ?_
    refine z_V0v ko5 mv_X5_114 kd_76 (t_X5_records  _) rfl rfl rfl rfl rfl (fun _ h2 => ?_)
    refine z_aload_n rfl rfl ?_
    refine z_getRn (m := 77) rfl fl_X5_7 rfl kd_76 rfl ?_
    refine z_iconst rfl rfl ?_
    refine z_iload_n rfl rfl ?_
    refine z_iadd rfl ?_
    refine z_iaload rfl kd_77 ?_
    refine z_istore_nL rfl rfl (fun y3 => ?_)
    refine z_aload_n rfl rfl ?_
    refine z_getRn (m := 77) rfl fl_X5_7 rfl kd_76 rfl ?_
    refine z_iconst rfl rfl ?_
    refine z_iload_n rfl rfl ?_
    refine z_iadd rfl ?_
    refine z_iload_n rfl rfl ?_
    refine z_iastoreL kd_77 rfl (fun h4 => ?_)
    refine z_iload_n rfl rfl ?_
    exact z_ireturn rfl rfl
  · refine z_ldc rfl cst_X5_97 rfl ?_
    exact z_ireturn rfl rfl
set_option maxRecDepth 20000 in
set_option maxHeartbeats 1000000 in
theorem t_X5_tell (x1 : Int) (x2 : Int) (x3 : Int) (h : Hp) : Ct M_X5_tell [vr 76, vi x1, vi x2, vi x3] h (f_X5_tell x1 x2 x3 h) := by
  refine Ct.mk ok_X5_tell pl_X5_tell rfl rfl ?_
  show Z M_X5_tell 0 [some (vr 76), some (vi x1), some (vi x2), some (vi x3)] [] h (f_X5_tell x1 x2 x3 h)
  unfold f_X5_tell
  refine z_aload_n rfl rfl ?_
  refine z_aload_n rfl rfl ?_
  refine z_aload_n rfl rfl ?_
  refine z_V0i ko5 mv_X5_117 kd_76 (t_X5_tried  _) rfl rfl rfl rfl rfl (fun r1 h1 => ?_)
  refine z_iload_n rfl rfl ?_
  refine z_iload_n rfl rfl ?_
  refine z_iload_n rfl rfl ?_
  refine z_V4i ko5 mv_X5_131 kd_76 (t_X5_tells _ _ _ _ _) rfl rfl rfl rfl rfl (fun r2 h2 => ?_)
  refine z_V1i ko5 mv_X5_125 kd_76 (t_X5_done _ _) rfl rfl rfl rfl rfl (fun r3 h3 => ?_)
  exact z_ireturn rfl rfl
set_option maxRecDepth 20000 in
set_option maxHeartbeats 1000000 in
theorem t_X5_type (x1 : Int) (h : Hp) : Ct M_X5_type [vr 76, vi x1] h (f_X5_type x1 h) := by
  refine Ct.mk ok_X5_type pl_X5_type rfl rfl ?_
  show Z M_X5_type 0 [some (vr 76), some (vi x1)] [] h (f_X5_type x1 h)
  unfold f_X5_type
  refine z_iload_n rfl rfl ?_
  refine z_bipush rfl rfl ?_
  refine z_bipush rfl rfl ?_
  refine z_S3i ms_X5_90 (t_X5_in _ _ _ _) rfl rfl rfl rfl (fun r1 h1 => ?_)
  refine z_if_ne rfl ?_ ?_
  · refine z_aload_n rfl rfl ?_
    refine z_getI rfl fl_X5_171 rfl kd_76 ?_
    refine z_bipush rfl rfl ?_
    refine z_icmp_ne rfl ?_ ?_
    · refine z_aload_n rfl rfl ?_
      refine z_getRn (m := 78) rfl fl_X5_13 rfl kd_76 rfl ?_
      refine z_aload_n rfl rfl ?_
      refine z_getI rfl fl_X5_171 rfl kd_76 ?_
      refine z_iload_n rfl rfl ?_
      refine z_iastoreL kd_78 rfl (fun h2 => ?_)
      refine z_aload_n rfl rfl ?_
      refine z_dup rfl rfl ?_
      refine z_getI rfl fl_X5_171 rfl kd_76 ?_
      refine z_iconst rfl rfl ?_
      refine z_iadd rfl ?_
      refine z_putL fi_X5_171 rfl kd_76 rfl (fun h3 => ?_)
      refine z_aload_n rfl rfl ?_
      refine z_getI rfl fl_X5_171 rfl kd_76 ?_
      exact z_ireturn rfl rfl
    · refine z_ldc rfl cst_X5_98 rfl ?_
      exact z_ireturn rfl rfl
  · refine z_ldc rfl cst_X5_97 rfl ?_
    exact z_ireturn rfl rfl
set_option maxRecDepth 20000 in
set_option maxHeartbeats 1000000 in
theorem t_X5_umbrella (x1 : Int) (x2 : Int) (h : Hp) : Ct M_X5_umbrella [vr 76, vi x1, vi x2] h (f_X5_umbrella x1 x2 h) := by
  refine Ct.mk ok_X5_umbrella pl_X5_umbrella rfl rfl ?_
  show Z M_X5_umbrella 0 [some (vr 76), some (vi x1), some (vi x2)] [] h (f_X5_umbrella x1 x2 h)
  unfold f_X5_umbrella
  refine z_aload_n rfl rfl ?_
  refine z_iload_n rfl rfl ?_
  refine z_V1i ko5 mv_X5_145 kd_76 (t_X5_isUmbrella _ _) rfl rfl rfl rfl rfl (fun r1 h1 => ?_)
  refine z_if_eq rfl ?_ ?_
  · refine z_ldc rfl cst_X5_97 rfl ?_
    exact z_ireturn rfl rfl
  · refine z_iload_n rfl rfl ?_
    refine z_iconst rfl rfl ?_
    refine z_bipush rfl rfl ?_
    refine z_S3i ms_X5_90 (t_X5_in _ _ _ _) rfl rfl rfl rfl (fun r2 h2 => ?_)
    refine z_if_ne rfl ?_ ?_
    · refine z_iload_n rfl rfl ?_
      refine Z.ite (fun e5 => ?_) (fun e5 => ?_)
      · refine z_table (tg := 13) rfl (o := 30) (by rw [e5]; rfl) rfl ?_
        refine z_aload_n rfl rfl ?_
        refine z_iload_n rfl rfl ?_
        refine z_iload_n rfl rfl ?_
        refine z_iconst rfl rfl ?_
        refine z_icmp_ne rfl ?_ ?_
        · refine z_iconst rfl rfl ?_
          refine z_V2i ko5 mv_X5_149 kd_76 (t_X5_mateOf _ _ _) rfl rfl rfl rfl rfl (fun r3 h3 => ?_)
          exact z_ireturn rfl rfl
        · refine z_iconst rfl rfl ?_
          refine z_goto rfl ?_
          refine z_V2i ko5 mv_X5_149 kd_76 (t_X5_mateOf _ _ _) rfl rfl rfl rfl rfl (fun r4 h4 => ?_)
          exact z_ireturn rfl rfl
      refine Z.ite (fun e8 => ?_) (fun e8 => ?_)
      · refine z_table (tg := 13) rfl (o := 30) (by rw [e8]; rfl) rfl ?_
        refine z_aload_n rfl rfl ?_
        refine z_iload_n rfl rfl ?_
        refine z_iload_n rfl rfl ?_
        refine z_iconst rfl rfl ?_
        refine z_icmp_ne rfl ?_ ?_
        · refine z_iconst rfl rfl ?_
          refine z_V2i ko5 mv_X5_149 kd_76 (t_X5_mateOf _ _ _) rfl rfl rfl rfl rfl (fun r6 h6 => ?_)
          exact z_ireturn rfl rfl
        · refine z_iconst rfl rfl ?_
          refine z_goto rfl ?_
          refine z_V2i ko5 mv_X5_149 kd_76 (t_X5_mateOf _ _ _) rfl rfl rfl rfl rfl (fun r7 h7 => ?_)
          exact z_ireturn rfl rfl
      refine Z.ite (fun e10 => ?_) (fun e10 => ?_)
      · refine z_table (tg := 23) rfl (o := 46) (by rw [e10]; rfl) rfl ?_
        refine z_aload_n rfl rfl ?_
        refine z_iload_n rfl rfl ?_
        refine z_iconst rfl rfl ?_
        refine z_V2i ko5 mv_X5_153 kd_76 (t_X5_suiting _ _ _) rfl rfl rfl rfl rfl (fun r9 h9 => ?_)
        exact z_ireturn rfl rfl
      refine Z.ite (fun e12 => ?_) (fun e12 => ?_)
      · refine z_table (tg := 28) rfl (o := 53) (by rw [e12]; rfl) rfl ?_
        refine z_aload_n rfl rfl ?_
        refine z_iload_n rfl rfl ?_
        refine z_V1i ko5 mv_X5_156 kd_76 (t_X5_oddness _ _) rfl rfl rfl rfl rfl (fun r11 h11 => ?_)
        exact z_ireturn rfl rfl
      refine z_table (tg := 32) rfl (o := 59) (if_pos (by omega)) rfl ?_
      refine z_aload_n rfl rfl ?_
      refine z_getRn (m := 77) rfl fl_X5_7 rfl kd_76 rfl ?_
      refine z_iconst rfl rfl ?_
      refine z_iload_n rfl rfl ?_
      refine z_S2i ms_X5_39 (t_X5_umbrellaAt _ _ _) rfl rfl rfl rfl (fun r13 h13 => ?_)
      refine z_iload_n rfl rfl ?_
      refine z_iadd rfl ?_
      refine z_iaload rfl kd_77 ?_
      exact z_ireturn rfl rfl
    · refine z_ldc rfl cst_X5_97 rfl ?_
      exact z_ireturn rfl rfl
set_option maxRecDepth 20000 in
set_option maxHeartbeats 1000000 in
theorem t_X5_undo  (h : Hp) : Ct M_X5_undo [vr 76] h (f_X5_undo  h) := by
  refine Ct.mk ok_X5_undo pl_X5_undo rfl rfl ?_
  show Z M_X5_undo 0 [some (vr 76)] [] h (f_X5_undo  h)
  unfold f_X5_undo
  refine z_aload_n rfl rfl ?_
  refine z_getI rfl fl_X5_31 rfl kd_76 ?_
  refine z_if_ne rfl ?_ ?_
  · refine z_aload_n rfl rfl ?_
    refine z_aload_n rfl rfl ?_
    refine z_getI rfl fl_X5_31 rfl kd_76 ?_
    refine z_iconst rfl rfl ?_
    refine z_V2v ko5 mv_X5_35 kd_76 (t_X5_copies _ _ _) rfl rfl rfl rfl rfl (fun _ h1 => ?_)
    refine z_aload_n rfl rfl ?_
    refine z_dup rfl rfl ?_
    refine z_getI rfl fl_X5_31 rfl kd_76 ?_
    refine z_iconst rfl rfl ?_
    refine z_isub rfl ?_
    refine z_putL fi_X5_31 rfl kd_76 rfl (fun h2 => ?_)
    refine z_aload_n rfl rfl ?_
    refine z_getI rfl fl_X5_31 rfl kd_76 ?_
    exact z_ireturn rfl rfl
  · refine z_ldc rfl cst_X5_103 rfl ?_
    exact z_ireturn rfl rfl
set_option maxRecDepth 20000 in
set_option maxHeartbeats 1000000 in
theorem t_X5_weeks (x1 : Int) (h : Hp) : Ct M_X5_weeks [vr 76, vi x1] h (f_X5_weeks x1 h) := by
  refine Ct.mk ok_X5_weeks pl_X5_weeks rfl rfl ?_
  show Z M_X5_weeks 0 [some (vr 76), some (vi x1)] [] h (f_X5_weeks x1 h)
  unfold f_X5_weeks
  refine z_aload_n rfl rfl ?_
  refine z_aload_n rfl rfl ?_
  refine z_aload_n rfl rfl ?_
  refine z_V0i ko5 mv_X5_117 kd_76 (t_X5_tried  _) rfl rfl rfl rfl rfl (fun r1 h1 => ?_)
  refine z_iload_n rfl rfl ?_
  refine z_V2i ko5 mv_X5_135 kd_76 (t_X5_weeksIn _ _ _) rfl rfl rfl rfl rfl (fun r2 h2 => ?_)
  refine z_V1i ko5 mv_X5_125 kd_76 (t_X5_done _ _) rfl rfl rfl rfl rfl (fun r3 h3 => ?_)
  exact z_ireturn rfl rfl
set_option maxRecDepth 20000 in
set_option maxHeartbeats 1000000 in
theorem t_X5_why_J80  (h : Hp) : Z M_X5_why 80 [none, none, none, none, none, none, none] [] h (f_X5_why_J80  h) := by
  unfold f_X5_why_J80
  refine z_iconst rfl rfl ?_
  refine z_goto rfl ?_
  refine z_istore rfl rfl ?_
  refine z_iload rfl rfl ?_
  refine z_if_eq rfl ?_ ?_
  · refine z_iconst rfl rfl ?_
    exact z_ireturn rfl rfl
  · refine z_iconst rfl rfl ?_
    refine z_goto rfl ?_
    exact z_ireturn rfl rfl
set_option maxRecDepth 20000 in
set_option maxHeartbeats 1000000 in
theorem t_X5_why (x1 : Int) (x2 : Int) (h : Hp) : Ct M_X5_why [vr 76, vi x1, vi x2] h (f_X5_why x1 x2 h) := by
  refine Ct.mk ok_X5_why pl_X5_why rfl rfl ?_
  show Z M_X5_why 0 [some (vr 76), some (vi x1), some (vi x2), none, none, none, none] [] h (f_X5_why x1 x2 h)
  unfold f_X5_why
  refine z_aload_n rfl rfl ?_
  refine z_iload_n rfl rfl ?_
  refine z_V1i ko5 mv_X5_145 kd_76 (t_X5_isUmbrella _ _) rfl rfl rfl rfl rfl (fun r1 h1 => ?_)
  refine z_if_eq rfl ?_ ?_
  · refine z_ldc rfl cst_X5_97 rfl ?_
    exact z_ireturn rfl rfl
  · refine z_aload_n rfl rfl ?_
    refine z_iconst rfl rfl ?_
    refine z_iload_n rfl rfl ?_
    refine z_V2i ko5 mv_X5_104 kd_76 (t_X5_isClaim _ _ _) rfl rfl rfl rfl rfl (fun r2 h2 => ?_)
    refine z_if_ne rfl ?_ ?_
    · refine z_aload_n rfl rfl ?_
      refine z_iconst rfl rfl ?_
      refine z_V1i ko5 mv_X5_87 kd_76 (t_X5_matches _ _) rfl rfl rfl rfl rfl (fun r3 h3 => ?_)
      refine z_istore_n rfl rfl ?_
      refine z_aload_n rfl rfl ?_
      refine z_getRn (m := 79) rfl fl_X5_16 rfl kd_76 rfl ?_
      refine z_iload_n rfl rfl ?_
      refine z_iaload rfl kd_79 ?_
      refine z_iload_n rfl rfl ?_
      refine z_icmp_ne rfl ?_ ?_
      · refine z_aload_n rfl rfl ?_
        refine z_iconst rfl rfl ?_
        refine z_iload_n rfl rfl ?_
        refine z_iload_n rfl rfl ?_
        refine z_V3i ko5 mv_X5_46 kd_76 (t_X5_misses _ _ _ _) rfl rfl rfl rfl rfl (fun r4 h4 => ?_)
        refine z_aload_n rfl rfl ?_
        refine z_getRn (m := 77) rfl fl_X5_7 rfl kd_76 rfl ?_
        refine z_iconst rfl rfl ?_
        refine z_iaload rfl kd_77 ?_
        refine z_icmp_le rfl ?_ ?_
        · refine z_aload_n rfl rfl ?_
          refine z_iconst rfl rfl ?_
          refine z_iload_n rfl rfl ?_
          refine z_iload_n rfl rfl ?_
          refine z_V3i ko5 mv_X5_53 kd_76 (t_X5_pointsOf _ _ _ _) rfl rfl rfl rfl rfl (fun r5 h5 => ?_)
          refine z_istore rfl rfl ?_
          refine z_iload rfl rfl ?_
          refine z_aload_n rfl rfl ?_
          refine z_getRn (m := 77) rfl fl_X5_7 rfl kd_76 rfl ?_
          refine z_iconst rfl rfl ?_
          refine z_iaload rfl kd_77 ?_
          refine z_icmp_ge rfl ?_ ?_
          · refine z_aload_n rfl rfl ?_
            refine z_getRn (m := 79) rfl fl_X5_16 rfl kd_76 rfl ?_
            refine z_iload_n rfl rfl ?_
            refine z_iaload rfl kd_79 ?_
            refine z_istoreL rfl rfl (fun y6 => ?_)
            refine z_iload rfl rfl ?_
            refine z_iconst rfl rfl ?_
            refine z_icmp_eq rfl ?_ ?_
            · refine z_iconst rfl rfl ?_
              refine z_istore rfl rfl ?_
              refine z_iload rfl rfl ?_
              refine z_if_eq rfl ?_ ?_
              · refine z_iconst rfl rfl ?_
                exact z_ireturn rfl rfl
              · refine z_iconst rfl rfl ?_
                refine z_goto rfl ?_
                exact z_ireturn rfl rfl
            · refine z_aload_n rfl rfl ?_
              refine z_getRn (m := 81) rfl fl_X5_22 rfl kd_76 rfl ?_
              refine z_bipush rfl rfl ?_
              refine z_iload_n rfl rfl ?_
              refine z_imul rfl ?_
              refine z_iload rfl rfl ?_
              refine z_iadd rfl ?_
              refine z_iaload rfl kd_81 ?_
              refine z_iload rfl rfl ?_
              refine z_icmp_gt rfl ?_ ?_
              · refine Z.weak ?_ (t_X5_why_J80   _)
                exact wkL_n (wkL_n (wkL_n (wkL_n (wkL_n (wkL_n (wkL_n (wkL_nil _)))))))
              · refine z_aload_n rfl rfl ?_
                refine z_getRn (m := 81) rfl fl_X5_22 rfl kd_76 rfl ?_
                refine z_bipush rfl rfl ?_
                refine z_iload_n rfl rfl ?_
                refine z_imul rfl ?_
                refine z_iload rfl rfl ?_
                refine z_iadd rfl ?_
                refine z_iaload rfl kd_81 ?_
                refine z_iload rfl rfl ?_
                refine z_icmp_ne rfl ?_ ?_
                · refine z_iconst rfl rfl ?_
                  refine z_istore rfl rfl ?_
                  refine z_iload rfl rfl ?_
                  refine z_if_eq rfl ?_ ?_
                  · refine z_iconst rfl rfl ?_
                    exact z_ireturn rfl rfl
                  · refine z_iconst rfl rfl ?_
                    refine z_goto rfl ?_
                    exact z_ireturn rfl rfl
                · refine z_iload rfl rfl ?_
                  refine z_iload_n rfl rfl ?_
                  refine z_icmp_ge rfl ?_ ?_
                  · refine z_iconst rfl rfl ?_
                    refine z_istore rfl rfl ?_
                    refine z_iload rfl rfl ?_
                    refine z_if_eq rfl ?_ ?_
                    · refine z_iconst rfl rfl ?_
                      exact z_ireturn rfl rfl
                    · refine z_iconst rfl rfl ?_
                      refine z_goto rfl ?_
                      exact z_ireturn rfl rfl
                  · refine Z.weak ?_ (t_X5_why_J80   _)
                    exact wkL_n (wkL_n (wkL_n (wkL_n (wkL_n (wkL_n (wkL_n (wkL_nil _)))))))
          · refine z_iconst rfl rfl ?_
            exact z_ireturn rfl rfl
        · refine z_iconst rfl rfl ?_
          exact z_ireturn rfl rfl
      · refine z_iconst rfl rfl ?_
        exact z_ireturn rfl rfl
    · refine z_ldc rfl cst_X5_97 rfl ?_
      exact z_ireturn rfl rfl
