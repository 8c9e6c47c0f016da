/-! printed by wip/gen/gen2_26.py: the constructors, and the entries of the pools that they use -/
/-- an object is made: its class, its constructor -/
def NL (own : String) (ix : Nat) (R : String) (N : Nat) : Prop := (Cond.classLink own ix R ∈ lwT) ∧ (Cond.instantiable R N ∈ lwT) ∧ (Cond.initialized R ∈ lwT)
def IL (own : String) (ix : Nat) (M : MI) : Prop := ((Cond.methodLink own ix (mY M) ∈ lwT) ∨ ∃ host, Cond.methodLinkNest own ix (mY M) host ∈ lw_tbl) ∧ (Cond.instanceMethod (mY M) ∈ lwT) ∧ (Cond.initialized (mY M).cls ∈ lwT) ∧ Cond.code (mY M) (mC M) (mN M) (mR M) ∈ lwT ∧ (mY M).name = "<init>" ∧ mR M = none ∧ ((mY M).cls ≠ "java/lang/invoke/MethodHandle" ∧ (mY M).cls ≠ "java/lang/invoke/VarHandle" ∧ (parseMethodDescriptor (mY M).desc).map (fun d => d.parameters.length) = some 0)
def OL (own : String) (ix : Nat) : Prop := (Cond.methodLink own ix Lib.objectInit ∈ lwT) ∧ (Cond.instanceMethod Lib.objectInit ∈ lwT) ∧ (Cond.code Lib.objectInit ⟨#[0xb1]⟩ 1 none ∈ lwT)
def PF (own : String) (ix ci f : Nat) (tf : FieldType) : Prop := ∃ R T ty N, KO ci R T ty N ∧ f < N ∧ ty f = tf ∧ Cond.fieldLink own ix (T f).1 (T f).2.1 (T f).2.2.1 ∈ lwT ∧ ((T f).2.2.2 = false ∨ ((T f).2.2.2 = true ∧ (T f).1 = own))
def M_X2_init : MI := (RX2, yX2_init, cX2_init, 1, none, [(0, .aload_n 0, 1, 0), (1, .invokespecial 3, 3, 0), (4, .aload_n 0, 1, 0), (5, .bipush 72, 2, 0), (7, .newarray .int, 2, 0), (9, .putfield 9, 3, 0), (12, .aload_n 0, 1, 0), (13, .iconst 0, 1, 0), (14, .putfield 15, 3, 0), (17, .return_, 1, 0)], { frames := 0, cells := 0, slots := 0, locals := 0 }, 0, 0)
theorem ok_X2_init : okM M_X2_init = true := by decide +kernel
theorem pl_X2_init : plainFor (mY M_X2_init) = true := plainFor_of_name pnX2
theorem ol_X2_3 : OL RX2 3 := ⟨lwT_k1 27 rfl rfl, lwT_k1 14 rfl rfl, lwT_k1 15 rfl rfl⟩
theorem pf_X2_9 : PF RX2 9 2 0 (tyX2 0) := ⟨_, _, _, _, ko2, by decide, rfl, lwT_k1 28 rfl rfl, Or.inr ⟨rfl, rfl⟩⟩
theorem pf_X2_15 : PF RX2 15 2 1 (tyX2 1) := ⟨_, _, _, _, ko2, by decide, rfl, lwT_k1 29 rfl rfl, Or.inl rfl⟩
def M_X0_init : MI := (RX0, yX0_init, cX0_init, 1, none, [(0, .aload_n 0, 1, 0), (1, .invokespecial 3, 3, 0), (4, .aload_n 0, 1, 0), (5, .sipush 144, 3, 0), (8, .newarray .int, 2, 0), (10, .putfield 9, 3, 0), (13, .aload_n 0, 1, 0), (14, .sipush 144, 3, 0), (17, .newarray .int, 2, 0), (19, .putfield 15, 3, 0), (22, .aload_n 0, 1, 0), (23, .sipush 144, 3, 0), (26, .newarray .boolean, 2, 0), (28, .putfield 18, 3, 0), (31, .aload_n 0, 1, 0), (32, .sipush 144, 3, 0), (35, .newarray .boolean, 2, 0), (37, .putfield 22, 3, 0), (40, .aload_n 0, 1, 0), (41, .bipush 40, 2, 0), (43, .newarray .int, 2, 0), (45, .putfield 25, 3, 0), (48, .aload_n 0, 1, 0), (49, .bipush 12, 2, 0), (51, .newarray .int, 2, 0), (53, .putfield 28, 3, 0), (56, .aload_n 0, 1, 0), (57, .bipush 12, 2, 0), (59, .newarray .int, 2, 0), (61, .putfield 31, 3, 0), (64, .aload_n 0, 1, 0), (65, .iconst 0, 1, 0), (66, .putfield 34, 3, 0), (69, .aload_n 0, 1, 0), (70, .iconst 0, 1, 0), (71, .putfield 38, 3, 0), (74, .aload_n 0, 1, 0), (75, .iconst 0, 1, 0), (76, .putfield 41, 3, 0), (79, .return_, 1, 0)], { frames := 0, cells := 0, slots := 0, locals := 0 }, 0, 0)
theorem ok_X0_init : okM M_X0_init = true := by decide +kernel
theorem pl_X0_init : plainFor (mY M_X0_init) = true := plainFor_of_name pnX0
theorem ol_X0_3 : OL RX0 3 := ⟨lwT_k1 70 rfl rfl, lwT_k1 14 rfl rfl, lwT_k1 15 rfl rfl⟩
theorem pf_X0_9 : PF RX0 9 0 0 (tyX0 0) := ⟨_, _, _, _, ko0, by decide, rfl, lwT_k1 71 rfl rfl, Or.inr ⟨rfl, rfl⟩⟩
theorem pf_X0_15 : PF RX0 15 0 1 (tyX0 1) := ⟨_, _, _, _, ko0, by decide, rfl, lwT_k1 72 rfl rfl, Or.inr ⟨rfl, rfl⟩⟩
theorem pf_X0_18 : PF RX0 18 0 2 (tyX0 2) := ⟨_, _, _, _, ko0, by decide, rfl, lwT_k1 73 rfl rfl, Or.inr ⟨rfl, rfl⟩⟩
theorem pf_X0_22 : PF RX0 22 0 3 (tyX0 3) := ⟨_, _, _, _, ko0, by decide, rfl, lwT_k1 74 rfl rfl, Or.inr ⟨rfl, rfl⟩⟩
theorem pf_X0_25 : PF RX0 25 0 4 (tyX0 4) := ⟨_, _, _, _, ko0, by decide, rfl, lwT_k1 75 rfl rfl, Or.inr ⟨rfl, rfl⟩⟩
theorem pf_X0_28 : PF RX0 28 0 5 (tyX0 5) := ⟨_, _, _, _, ko0, by decide, rfl, lwT_k1 76 rfl rfl, Or.inr ⟨rfl, rfl⟩⟩
theorem pf_X0_31 : PF RX0 31 0 6 (tyX0 6) := ⟨_, _, _, _, ko0, by decide, rfl, lwT_k1 77 rfl rfl, Or.inr ⟨rfl, rfl⟩⟩
theorem pf_X0_34 : PF RX0 34 0 7 (tyX0 7) := ⟨_, _, _, _, ko0, by decide, rfl, lwT_k1 78 rfl rfl, Or.inl rfl⟩
theorem pf_X0_38 : PF RX0 38 0 8 (tyX0 8) := ⟨_, _, _, _, ko0, by decide, rfl, lwT_k1 79 rfl rfl, Or.inl rfl⟩
theorem pf_X0_41 : PF RX0 41 0 9 (tyX0 9) := ⟨_, _, _, _, ko0, by decide, rfl, lwT_k1 80 rfl rfl, Or.inl rfl⟩
def M_X3_init : MI := (RX3, yX3_init, cX3_init, 1, none, [(0, .aload_n 0, 1, 0), (1, .invokespecial 3, 3, 0), (4, .aload_n 0, 1, 0), (5, .bipush 60, 2, 0), (7, .newarray .char, 2, 0), (9, .putfield 9, 3, 0), (12, .aload_n 0, 1, 0), (13, .iconst 0, 1, 0), (14, .putfield 15, 3, 0), (17, .aload_n 0, 1, 0), (18, .iconst 0, 1, 0), (19, .putfield 19, 3, 0), (22, .aload_n 0, 1, 0), (23, .iconst (-1), 1, 0), (24, .putfield 22, 3, 0), (27, .aload_n 0, 1, 0), (28, .iconst 4, 1, 0), (29, .newarray .int, 2, 0), (31, .putfield 25, 3, 0), (34, .return_, 1, 0)], { frames := 0, cells := 0, slots := 0, locals := 0 }, 0, 0)
theorem ok_X3_init : okM M_X3_init = true := by decide +kernel
theorem pl_X3_init : plainFor (mY M_X3_init) = true := plainFor_of_name pnX3
theorem ol_X3_3 : OL RX3 3 := ⟨lwT_k1 111 rfl rfl, lwT_k1 14 rfl rfl, lwT_k1 15 rfl rfl⟩
theorem pf_X3_9 : PF RX3 9 3 0 (tyX3 0) := ⟨_, _, _, _, ko3, by decide, rfl, lwT_k1 112 rfl rfl, Or.inr ⟨rfl, rfl⟩⟩
theorem pf_X3_15 : PF RX3 15 3 1 (tyX3 1) := ⟨_, _, _, _, ko3, by decide, rfl, lwT_k1 113 rfl rfl, Or.inl rfl⟩
theorem pf_X3_19 : PF RX3 19 3 2 (tyX3 2) := ⟨_, _, _, _, ko3, by decide, rfl, lwT_k1 115 rfl rfl, Or.inl rfl⟩
theorem pf_X3_22 : PF RX3 22 3 3 (tyX3 3) := ⟨_, _, _, _, ko3, by decide, rfl, lwT_k1 116 rfl rfl, Or.inl rfl⟩
theorem pf_X3_25 : PF RX3 25 3 4 (tyX3 4) := ⟨_, _, _, _, ko3, by decide, rfl, lwT_k1 117 rfl rfl, Or.inr ⟨rfl, rfl⟩⟩
def M_X1_init : MI := (RX1, yX1_init, cX1_init, 1, none, [(0, .aload_n 0, 1, 0), (1, .invokespecial 3, 3, 0), (4, .aload_n 0, 1, 0), (5, .new 9, 3, 0), (8, .dup, 1, 0), (9, .invokespecial 11, 3, 0), (12, .putfield 12, 3, 0), (15, .aload_n 0, 1, 0), (16, .new 9, 3, 0), (19, .dup, 1, 0), (20, .invokespecial 11, 3, 0), (23, .putfield 18, 3, 0), (26, .aload_n 0, 1, 0), (27, .new 9, 3, 0), (30, .dup, 1, 0), (31, .invokespecial 11, 3, 0), (34, .putfield 21, 3, 0), (37, .aload_n 0, 1, 0), (38, .bipush 7, 2, 0), (40, .newarray .int, 2, 0), (42, .putfield 24, 3, 0), (45, .aload_n 0, 1, 0), (46, .bipush 12, 2, 0), (48, .newarray .int, 2, 0), (50, .putfield 28, 3, 0), (53, .getstatic 31, 3, 0), (56, .iconst 0, 1, 0), (57, .aload_n 0, 1, 0), (58, .getfield 24, 3, 0), (61, .iconst 0, 1, 0), (62, .bipush 7, 2, 0), (64, .invokestatic 34, 3, 0), (67, .return_, 1, 0)], { frames := 0, cells := 0, slots := 0, locals := 0 }, 0, 0)
theorem ok_X1_init : okM M_X1_init = true := by decide +kernel
theorem pl_X1_init : plainFor (mY M_X1_init) = true := plainFor_of_name pnX1
theorem ol_X1_3 : OL RX1 3 := ⟨lwT_k1 21 rfl rfl, lwT_k1 14 rfl rfl, lwT_k1 15 rfl rfl⟩
theorem nl_X1_9 : NL RX1 9 RX2 2 := ⟨lwT_k1 22 rfl rfl, lwT_k1 23 rfl rfl, lwT_k1 3 rfl rfl⟩
theorem il_X1_11 : IL RX1 11 M_X2_init := ⟨Or.inr ⟨"OddUmbrellas", lwN_k1 24 rfl⟩, lwT_k1 25 rfl rfl, lwT_k1 3 rfl rfl, lwT_k1 26 rfl rfl, rfl, rfl, ⟨by decide +kernel, by decide +kernel, by decide +kernel⟩⟩
theorem pf_X1_12 : PF RX1 12 1 0 (tyX1 0) := ⟨_, _, _, _, ko1, by decide, rfl, lwT_k1 44 rfl rfl, Or.inr ⟨rfl, rfl⟩⟩
theorem pf_X1_18 : PF RX1 18 1 1 (tyX1 1) := ⟨_, _, _, _, ko1, by decide, rfl, lwT_k1 47 rfl rfl, Or.inr ⟨rfl, rfl⟩⟩
theorem pf_X1_21 : PF RX1 21 1 2 (tyX1 2) := ⟨_, _, _, _, ko1, by decide, rfl, lwT_k1 50 rfl rfl, Or.inr ⟨rfl, rfl⟩⟩
theorem pf_X1_24 : PF RX1 24 1 3 (tyX1 3) := ⟨_, _, _, _, ko1, by decide, rfl, lwT_k1 52 rfl rfl, Or.inr ⟨rfl, rfl⟩⟩
theorem pf_X1_28 : PF RX1 28 1 4 (tyX1 4) := ⟨_, _, _, _, ko1, by decide, rfl, lwT_k1 53 rfl rfl, Or.inr ⟨rfl, rfl⟩⟩
theorem gs_X1_31 : Cond.fieldLinkNest RX1 31 "OddUmbrellas" (sN 84) "[I" "OddUmbrellas" ∈ lw_tbl := lwN_k1 39 rfl
theorem gf_X1_24 : FL RX1 24 1 3 := ⟨_, _, _, _, ko1, by decide, Or.inl (lwT_k1 52 rfl rfl)⟩
-- arraycopy X1 34: cp_X1_34
def M_X4_init : MI := (RX4, yX4_init, cX4_init, 2, none, [(0, .aload_n 0, 1, 0), (1, .invokespecial 1, 3, 0), (4, .aload_n 0, 1, 0), (5, .new 7, 3, 0), (8, .dup, 1, 0), (9, .invokespecial 9, 3, 0), (12, .putfield 10, 3, 0), (15, .aload_n 0, 1, 0), (16, .new 7, 3, 0), (19, .dup, 1, 0), (20, .invokespecial 9, 3, 0), (23, .putfield 16, 3, 0), (26, .aload_n 0, 1, 0), (27, .new 19, 3, 0), (30, .dup, 1, 0), (31, .invokespecial 21, 3, 0), (34, .putfield 22, 3, 0), (37, .aload_n 0, 1, 0), (38, .iconst 5, 1, 0), (39, .anewarray 7, 3, 0), (42, .putfield 26, 3, 0), (45, .aload_n 0, 1, 0), (46, .iconst 0, 1, 0), (47, .putfield 30, 3, 0), (50, .aload_n 0, 1, 0), (51, .new 34, 3, 0), (54, .dup, 1, 0), (55, .invokespecial 36, 3, 0), (58, .putfield 37, 3, 0), (61, .aload_n 0, 1, 0), (62, .iconst 0, 1, 0), (63, .putfield 41, 3, 0), (66, .aload_n 0, 1, 0), (67, .iconst (-1), 1, 0), (68, .putfield 44, 3, 0), (71, .aload_n 0, 1, 0), (72, .iconst (-1), 1, 0), (73, .putfield 47, 3, 0), (76, .aload_n 0, 1, 0), (77, .iconst (-1), 1, 0), (78, .putfield 50, 3, 0), (81, .iconst 0, 1, 0), (82, .istore_n 1, 1, 0), (83, .iload_n 1, 1, 0), (84, .aload_n 0, 1, 0), (85, .getfield 26, 3, 0), (88, .arraylength, 1, 0), (89, .if_icmp .ge 22, 3, 57), (92, .aload_n 0, 1, 0), (93, .getfield 26, 3, 0), (96, .iload_n 1, 1, 0), (97, .new 7, 3, 0), (100, .dup, 1, 0), (101, .invokespecial 9, 3, 0), (104, .aastore, 1, 0), (105, .iinc 1 1, 3, 0), (108, .goto (-25), 3, 43), (111, .return_, 1, 0)], { frames := 0, cells := 0, slots := 0, locals := 0 }, 0, 0)
theorem ok_X4_init : okM M_X4_init = true := by decide +kernel
theorem pl_X4_init : plainFor (mY M_X4_init) = true := plainFor_of_name pnX4
theorem ol_X4_1 : OL RX4 1 := ⟨lwT_k1 13 rfl rfl, lwT_k1 14 rfl rfl, lwT_k1 15 rfl rfl⟩
theorem nl_X4_7 : NL RX4 7 RX1 5 := ⟨lwT_k1 16 rfl rfl, lwT_k1 17 rfl rfl, lwT_k1 2 rfl rfl⟩
theorem il_X4_9 : IL RX4 9 M_X1_init := ⟨Or.inl (lwT_k1 18 rfl rfl), lwT_k1 19 rfl rfl, lwT_k1 2 rfl rfl, lwT_k1 20 rfl rfl, rfl, rfl, ⟨by decide +kernel, by decide +kernel, by decide +kernel⟩⟩
theorem pf_X4_10 : PF RX4 10 4 0 (tyX4 0) := ⟨_, _, _, _, ko4, by decide, rfl, lwT_k1 130 rfl rfl, Or.inr ⟨rfl, rfl⟩⟩
theorem pf_X4_16 : PF RX4 16 4 1 (tyX4 1) := ⟨_, _, _, _, ko4, by decide, rfl, lwT_k1 131 rfl rfl, Or.inr ⟨rfl, rfl⟩⟩
theorem nl_X4_19 : NL RX4 19 RX0 10 := ⟨lwT_k1 65 rfl rfl, lwT_k1 66 rfl rfl, lwT_k1 5 rfl rfl⟩
theorem il_X4_21 : IL RX4 21 M_X0_init := ⟨Or.inr ⟨"OddUmbrellas", lwN_k1 67 rfl⟩, lwT_k1 68 rfl rfl, lwT_k1 5 rfl rfl, lwT_k1 69 rfl rfl, rfl, rfl, ⟨by decide +kernel, by decide +kernel, by decide +kernel⟩⟩
theorem pf_X4_22 : PF RX4 22 4 2 (tyX4 2) := ⟨_, _, _, _, ko4, by decide, rfl, lwT_k1 132 rfl rfl, Or.inr ⟨rfl, rfl⟩⟩
theorem cl_X4_7 : Cond.classLink RX4 7 RX1 ∈ lwT := lwT_k1 16 rfl rfl
theorem pf_X4_26 : PF RX4 26 4 3 (tyX4 3) := ⟨_, _, _, _, ko4, by decide, rfl, lwT_k1 133 rfl rfl, Or.inr ⟨rfl, rfl⟩⟩
theorem pf_X4_30 : PF RX4 30 4 4 (tyX4 4) := ⟨_, _, _, _, ko4, by decide, rfl, lwT_k1 134 rfl rfl, Or.inl rfl⟩
theorem nl_X4_34 : NL RX4 34 RX3 5 := ⟨lwT_k1 106 rfl rfl, lwT_k1 107 rfl rfl, lwT_k1 6 rfl rfl⟩
theorem il_X4_36 : IL RX4 36 M_X3_init := ⟨Or.inr ⟨"OddUmbrellas", lwN_k1 108 rfl⟩, lwT_k1 109 rfl rfl, lwT_k1 6 rfl rfl, lwT_k1 110 rfl rfl, rfl, rfl, ⟨by decide +kernel, by decide +kernel, by decide +kernel⟩⟩
theorem pf_X4_37 : PF RX4 37 4 5 (tyX4 5) := ⟨_, _, _, _, ko4, by decide, rfl, lwT_k1 135 rfl rfl, Or.inr ⟨rfl, rfl⟩⟩
theorem pf_X4_41 : PF RX4 41 4 6 (tyX4 6) := ⟨_, _, _, _, ko4, by decide, rfl, lwT_k1 136 rfl rfl, Or.inl rfl⟩
theorem pf_X4_44 : PF RX4 44 4 7 (tyX4 7) := ⟨_, _, _, _, ko4, by decide, rfl, lwT_k1 137 rfl rfl, Or.inl rfl⟩
theorem pf_X4_47 : PF RX4 47 4 8 (tyX4 8) := ⟨_, _, _, _, ko4, by decide, rfl, lwT_k1 138 rfl rfl, Or.inl rfl⟩
theorem pf_X4_50 : PF RX4 50 4 9 (tyX4 9) := ⟨_, _, _, _, ko4, by decide, rfl, lwT_k1 139 rfl rfl, Or.inl rfl⟩
theorem gf_X4_26 : FL RX4 26 4 3 := ⟨_, _, _, _, ko4, by decide, Or.inl (lwT_k1 133 rfl rfl)⟩
theorem nl_L_17 : NL RL 17 RX4 10 := ⟨lwT_k1 8 rfl rfl, lwT_k1 9 rfl rfl, lwT_k1 1 rfl rfl⟩
theorem il_L_106 : IL RL 106 M_X4_init := ⟨Or.inl (lwT_k1 10 rfl rfl), lwT_k1 11 rfl rfl, lwT_k1 1 rfl rfl, lwT_k1 12 rfl rfl, rfl, rfl, ⟨by decide +kernel, by decide +kernel, by decide +kernel⟩⟩
theorem ar_boolean : Cond.arrayClass .boolean ∈ lwT := lwT_k1 104 rfl rfl
theorem ar_char : Cond.arrayClass .char ∈ lwT := lwT_k1 129 rfl rfl
theorem ar_over : Cond.arrayOver (.object RX1) ∈ lw_tbl := lwN_k1 105 rfl
theorem df_0 : ∀ j, j < 10 → defaultValue (tyX0 j) = (match off 0 j with | some _ => Value.null | none => .int 0) := fun j hj => by
  rcases (show j = 0 ∨ j = 1 ∨ j = 2 ∨ j = 3 ∨ j = 4 ∨ j = 5 ∨ j = 6 ∨ j = 7 ∨ j = 8 ∨ j = 9 by omega) with rfl | rfl | rfl | rfl | rfl | rfl | rfl | rfl | rfl | rfl
  all_goals rfl
theorem df_1 : ∀ j, j < 5 → defaultValue (tyX1 j) = (match off 1 j with | some _ => Value.null | none => .int 0) := fun j hj => by
  rcases (show j = 0 ∨ j = 1 ∨ j = 2 ∨ j = 3 ∨ j = 4 by omega) with rfl | rfl | rfl | rfl | rfl
  all_goals rfl
theorem df_2 : ∀ j, j < 2 → defaultValue (tyX2 j) = (match off 2 j with | some _ => Value.null | none => .int 0) := fun j hj => by
  rcases (show j = 0 ∨ j = 1 by omega) with rfl | rfl
  all_goals rfl
theorem df_3 : ∀ j, j < 5 → defaultValue (tyX3 j) = (match off 3 j with | some _ => Value.null | none => .int 0) := fun j hj => by
  rcases (show j = 0 ∨ j = 1 ∨ j = 2 ∨ j = 3 ∨ j = 4 by omega) with rfl | rfl | rfl | rfl | rfl
  all_goals rfl
theorem df_4 : ∀ j, j < 10 → defaultValue (tyX4 j) = (match off 4 j with | some _ => Value.null | none => .int 0) := fun j hj => by
  rcases (show j = 0 ∨ j = 1 ∨ j = 2 ∨ j = 3 ∨ j = 4 ∨ j = 5 ∨ j = 6 ∨ j = 7 ∨ j = 8 ∨ j = 9 by omega) with rfl | rfl | rfl | rfl | rfl | rfl | rfl | rfl | rfl | rfl
  all_goals rfl
