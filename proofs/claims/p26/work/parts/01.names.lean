-- ===== PART A: goes FIRST, ahead of the names: the tables' words, and 'selects' of the private methods out of them =====
/-- a private method of a class that the tables say can be made, by its rows of tables_1 -/
def lw_okq (q : MethodName × Nat) : Prop := (q.1.cls ≠ "java/lang/invoke/MethodHandle" ∧ q.1.cls ≠ "java/lang/invoke/VarHandle") ∧ Cond.instantiable q.1.cls q.2 ∈ tables_1 ∧ Cond.privateMethod q.1 ∈ tables_1 ∧ Cond.instanceMethod q.1 ∈ tables_1
theorem lw_p0 : lw_okq (⟨"OddUmbrellas", "keepState", "()V"⟩, 10) := ⟨⟨by decide +kernel, by decide +kernel⟩, List.mem_of_getElem? (i := 9) (by decide +kernel), List.mem_of_getElem? (i := 166) (by decide +kernel), List.mem_of_getElem? (i := 167) (by decide +kernel)⟩
theorem lw_p1 : lw_okq (⟨"OddUmbrellas$Office", "addTo", "(II)V"⟩, 5) := ⟨⟨by decide +kernel, by decide +kernel⟩, List.mem_of_getElem? (i := 17) (by decide +kernel), List.mem_of_getElem? (i := 188) (by decide +kernel), List.mem_of_getElem? (i := 189) (by decide +kernel)⟩
theorem lw_p2 : lw_okq (⟨"OddUmbrellas", "recorded", "(I)I"⟩, 10) := ⟨⟨by decide +kernel, by decide +kernel⟩, List.mem_of_getElem? (i := 9) (by decide +kernel), List.mem_of_getElem? (i := 196) (by decide +kernel), List.mem_of_getElem? (i := 197) (by decide +kernel)⟩
theorem lw_p3 : lw_okq (⟨"OddUmbrellas", "forgetOldestState", "()V"⟩, 10) := ⟨⟨by decide +kernel, by decide +kernel⟩, List.mem_of_getElem? (i := 9) (by decide +kernel), List.mem_of_getElem? (i := 200) (by decide +kernel), List.mem_of_getElem? (i := 201) (by decide +kernel)⟩
theorem lw_p4 : lw_okq (⟨"OddUmbrellas$Matching", "noteOddness", "(LOddUmbrellas$Office;)V"⟩, 10) := ⟨⟨by decide +kernel, by decide +kernel⟩, List.mem_of_getElem? (i := 66) (by decide +kernel), List.mem_of_getElem? (i := 236) (by decide +kernel), List.mem_of_getElem? (i := 237) (by decide +kernel)⟩
theorem lw_p5 : lw_okq (⟨"OddUmbrellas$Matching", "weigh", "(IILOddUmbrellas$Office;)V"⟩, 10) := ⟨⟨by decide +kernel, by decide +kernel⟩, List.mem_of_getElem? (i := 66) (by decide +kernel), List.mem_of_getElem? (i := 244) (by decide +kernel), List.mem_of_getElem? (i := 245) (by decide +kernel)⟩
theorem lw_p6 : lw_okq (⟨"OddUmbrellas$Matching", "pairOf", "(II)I"⟩, 10) := ⟨⟨by decide +kernel, by decide +kernel⟩, List.mem_of_getElem? (i := 66) (by decide +kernel), List.mem_of_getElem? (i := 252) (by decide +kernel), List.mem_of_getElem? (i := 253) (by decide +kernel)⟩
theorem lw_p7 : lw_okq (⟨"OddUmbrellas$Matching", "matchNone", "()V"⟩, 10) := ⟨⟨by decide +kernel, by decide +kernel⟩, List.mem_of_getElem? (i := 66) (by decide +kernel), List.mem_of_getElem? (i := 256) (by decide +kernel), List.mem_of_getElem? (i := 257) (by decide +kernel)⟩
theorem lw_p8 : lw_okq (⟨"OddUmbrellas$Matching", "bestFreePair", "()I"⟩, 10) := ⟨⟨by decide +kernel, by decide +kernel⟩, List.mem_of_getElem? (i := 66) (by decide +kernel), List.mem_of_getElem? (i := 260) (by decide +kernel), List.mem_of_getElem? (i := 261) (by decide +kernel)⟩
theorem lw_p9 : lw_okq (⟨"OddUmbrellas$Matching", "suits", "(II)Z"⟩, 10) := ⟨⟨by decide +kernel, by decide +kernel⟩, List.mem_of_getElem? (i := 66) (by decide +kernel), List.mem_of_getElem? (i := 272) (by decide +kernel), List.mem_of_getElem? (i := 273) (by decide +kernel)⟩
theorem lw_p10 : lw_okq (⟨"OddUmbrellas$Matching", "aheadOf", "(II)I"⟩, 10) := ⟨⟨by decide +kernel, by decide +kernel⟩, List.mem_of_getElem? (i := 66) (by decide +kernel), List.mem_of_getElem? (i := 276) (by decide +kernel), List.mem_of_getElem? (i := 277) (by decide +kernel)⟩
theorem lw_p11 : lw_okq (⟨"OddUmbrellas$Matching", "join", "(II)V"⟩, 10) := ⟨⟨by decide +kernel, by decide +kernel⟩, List.mem_of_getElem? (i := 66) (by decide +kernel), List.mem_of_getElem? (i := 280) (by decide +kernel), List.mem_of_getElem? (i := 281) (by decide +kernel)⟩
theorem lw_p12 : lw_okq (⟨"OddUmbrellas$Matching", "nextAsk", "()I"⟩, 10) := ⟨⟨by decide +kernel, by decide +kernel⟩, List.mem_of_getElem? (i := 66) (by decide +kernel), List.mem_of_getElem? (i := 288) (by decide +kernel), List.mem_of_getElem? (i := 289) (by decide +kernel)⟩
theorem lw_p13 : lw_okq (⟨"OddUmbrellas$Matching", "nextPairOf", "(I)I"⟩, 10) := ⟨⟨by decide +kernel, by decide +kernel⟩, List.mem_of_getElem? (i := 66) (by decide +kernel), List.mem_of_getElem? (i := 292) (by decide +kernel), List.mem_of_getElem? (i := 293) (by decide +kernel)⟩
theorem lw_p14 : lw_okq (⟨"OddUmbrellas$Matching", "askFor", "(I)V"⟩, 10) := ⟨⟨by decide +kernel, by decide +kernel⟩, List.mem_of_getElem? (i := 66) (by decide +kernel), List.mem_of_getElem? (i := 296) (by decide +kernel), List.mem_of_getElem? (i := 297) (by decide +kernel)⟩
theorem lw_p15 : lw_okq (⟨"OddUmbrellas$Matching", "part", "(II)V"⟩, 10) := ⟨⟨by decide +kernel, by decide +kernel⟩, List.mem_of_getElem? (i := 66) (by decide +kernel), List.mem_of_getElem? (i := 300) (by decide +kernel), List.mem_of_getElem? (i := 301) (by decide +kernel)⟩
def lw_privs_1 : List (MethodName × Nat) := [(⟨"OddUmbrellas", "keepState", "()V"⟩, 10), (⟨"OddUmbrellas$Office", "addTo", "(II)V"⟩, 5), (⟨"OddUmbrellas", "recorded", "(I)I"⟩, 10), (⟨"OddUmbrellas", "forgetOldestState", "()V"⟩, 10), (⟨"OddUmbrellas$Matching", "noteOddness", "(LOddUmbrellas$Office;)V"⟩, 10), (⟨"OddUmbrellas$Matching", "weigh", "(IILOddUmbrellas$Office;)V"⟩, 10), (⟨"OddUmbrellas$Matching", "pairOf", "(II)I"⟩, 10), (⟨"OddUmbrellas$Matching", "matchNone", "()V"⟩, 10), (⟨"OddUmbrellas$Matching", "bestFreePair", "()I"⟩, 10), (⟨"OddUmbrellas$Matching", "suits", "(II)Z"⟩, 10), (⟨"OddUmbrellas$Matching", "aheadOf", "(II)I"⟩, 10), (⟨"OddUmbrellas$Matching", "join", "(II)V"⟩, 10), (⟨"OddUmbrellas$Matching", "nextAsk", "()I"⟩, 10), (⟨"OddUmbrellas$Matching", "nextPairOf", "(I)I"⟩, 10), (⟨"OddUmbrellas$Matching", "askFor", "(I)V"⟩, 10), (⟨"OddUmbrellas$Matching", "part", "(II)V"⟩, 10)]
theorem lw_r1 : ∀ q ∈ lw_privs_1, lw_okq q := List.forall_mem_cons.mpr ⟨lw_p0, List.forall_mem_cons.mpr ⟨lw_p1, List.forall_mem_cons.mpr ⟨lw_p2, List.forall_mem_cons.mpr ⟨lw_p3, List.forall_mem_cons.mpr ⟨lw_p4, List.forall_mem_cons.mpr ⟨lw_p5, List.forall_mem_cons.mpr ⟨lw_p6, List.forall_mem_cons.mpr ⟨lw_p7, List.forall_mem_cons.mpr ⟨lw_p8, List.forall_mem_cons.mpr ⟨lw_p9, List.forall_mem_cons.mpr ⟨lw_p10, List.forall_mem_cons.mpr ⟨lw_p11, List.forall_mem_cons.mpr ⟨lw_p12, List.forall_mem_cons.mpr ⟨lw_p13, List.forall_mem_cons.mpr ⟨lw_p14, List.forall_mem_cons.mpr ⟨lw_p15, fun _ h => absurd h List.not_mem_nil⟩⟩⟩⟩⟩⟩⟩⟩⟩⟩⟩⟩⟩⟩⟩⟩
theorem lw_p16 : lw_okq (⟨"OddUmbrellas$Office", "enter", "(III)V"⟩, 5) := ⟨⟨by decide +kernel, by decide +kernel⟩, List.mem_of_getElem? (i := 17) (by decide +kernel), List.mem_of_getElem? (i := 368) (by decide +kernel), List.mem_of_getElem? (i := 369) (by decide +kernel)⟩
theorem lw_p17 : lw_okq (⟨"OddUmbrellas$Office", "growOlder", "(LOddUmbrellas$Rows;)V"⟩, 5) := ⟨⟨by decide +kernel, by decide +kernel⟩, List.mem_of_getElem? (i := 17) (by decide +kernel), List.mem_of_getElem? (i := 385) (by decide +kernel), List.mem_of_getElem? (i := 386) (by decide +kernel)⟩
theorem lw_p18 : lw_okq (⟨"OddUmbrellas$Office", "endOld", "(LOddUmbrellas$Rows;III)V"⟩, 5) := ⟨⟨by decide +kernel, by decide +kernel⟩, List.mem_of_getElem? (i := 17) (by decide +kernel), List.mem_of_getElem? (i := 389) (by decide +kernel), List.mem_of_getElem? (i := 390) (by decide +kernel)⟩
theorem lw_p19 : lw_okq (⟨"OddUmbrellas", "isPair", "(II)Z"⟩, 10) := ⟨⟨by decide +kernel, by decide +kernel⟩, List.mem_of_getElem? (i := 9) (by decide +kernel), List.mem_of_getElem? (i := 455) (by decide +kernel), List.mem_of_getElem? (i := 456) (by decide +kernel)⟩
def lw_privs_2 : List (MethodName × Nat) := [(⟨"OddUmbrellas$Office", "enter", "(III)V"⟩, 5), (⟨"OddUmbrellas$Office", "growOlder", "(LOddUmbrellas$Rows;)V"⟩, 5), (⟨"OddUmbrellas$Office", "endOld", "(LOddUmbrellas$Rows;III)V"⟩, 5), (⟨"OddUmbrellas", "isPair", "(II)Z"⟩, 10)]
theorem lw_r2 : ∀ q ∈ lw_privs_2, lw_okq q := List.forall_mem_cons.mpr ⟨lw_p16, List.forall_mem_cons.mpr ⟨lw_p17, List.forall_mem_cons.mpr ⟨lw_p18, List.forall_mem_cons.mpr ⟨lw_p19, fun _ h => absurd h List.not_mem_nil⟩⟩⟩⟩
def lw_privs : List (MethodName × Nat) := lw_privs_1 ++ (lw_privs_2)
def lw_tbl : List Cond := k2_sels lw_privs ++ tables_1
theorem lw_privs_ok : ∀ q ∈ lw_privs, lw_okq q := by
  show ∀ q ∈ lw_privs_1 ++ (lw_privs_2), lw_okq q
  exact List.forall_mem_append.mpr ⟨lw_r1, lw_r2⟩
/-- the streams that the claim lets the run draw from -/
abbrev lw_cs : List Choice := [Jvm.Choice.named "NaN.bits"]
theorem lw_bits : nanBits ∈ lw_cs := by first | decide | exact List.mem_cons_self | simp [lw_cs, nanBits]

def RX0 : String := "OddUmbrellas$Matching"
def TX0 : u_T := fun k => match k with
  | 0 => ("OddUmbrellas$Matching", "misses", "[I", true)
  | 1 => ("OddUmbrellas$Matching", "worth", "[I", true)
  | 2 => ("OddUmbrellas$Matching", "suiting", "[Z", true)
  | 3 => ("OddUmbrellas$Matching", "asked", "[Z", true)
  | 4 => ("OddUmbrellas$Matching", "oddness", "[I", true)
  | 5 => ("OddUmbrellas$Matching", "claimOfUmbrella", "[I", true)
  | 6 => ("OddUmbrellas$Matching", "umbrellaOfClaim", "[I", true)
  | 7 => ("OddUmbrellas$Matching", "umbrellas", "I", false)
  | 8 => ("OddUmbrellas$Matching", "claims", "I", false)
  | _ => ("OddUmbrellas$Matching", "pairs", "I", false)
def tyX0 : Nat → FieldType := fun k => match k with
  | 0 => .array .int
  | 1 => .array .int
  | 2 => .array .boolean
  | 3 => .array .boolean
  | 4 => .array .int
  | 5 => .array .int
  | 6 => .array .int
  | 7 => .int
  | 8 => .int
  | _ => .int
abbrev wsX00 : List Cond := u_ws RX0 TX0 10
theorem nmX0 : ∀ a, a < 10 → ∀ b, b < 10 → a ≠ b → (TX0 a).2.1 ≠ (TX0 b).2.1 := by decide +kernel
theorem tyX0_ok : ∀ k, k < 10 → parseFieldDescriptor (TX0 k).2.2.1 = some (tyX0 k) := by decide +kernel
abbrev cX0_init : ByteArray := prog_2_method_1_code
def yX0_init : MethodName := ⟨RX0, "<init>", "()V"⟩
abbrev cX0_weighAll : ByteArray := prog_2_method_2_code
def yX0_weighAll : MethodName := ⟨RX0, "weighAll", "(LOddUmbrellas$Office;)V"⟩
abbrev cX0_noteOddness : ByteArray := prog_2_method_3_code
def yX0_noteOddness : MethodName := ⟨RX0, "noteOddness", "(LOddUmbrellas$Office;)V"⟩
abbrev cX0_weigh : ByteArray := prog_2_method_4_code
def yX0_weigh : MethodName := ⟨RX0, "weigh", "(IILOddUmbrellas$Office;)V"⟩
abbrev cX0_pairOf : ByteArray := prog_2_method_5_code
def yX0_pairOf : MethodName := ⟨RX0, "pairOf", "(II)I"⟩
abbrev cX0_worthOf : ByteArray := prog_2_method_6_code
def yX0_worthOf : MethodName := ⟨RX0, "worthOf", "(II)I"⟩
abbrev cX0_suits : ByteArray := prog_2_method_7_code
def yX0_suits : MethodName := ⟨RX0, "suits", "(II)Z"⟩
abbrev cX0_claimsSuiting : ByteArray := prog_2_method_8_code
def yX0_claimsSuiting : MethodName := ⟨RX0, "claimsSuiting", "(I)I"⟩
abbrev cX0_umbrellasSuiting : ByteArray := prog_2_method_9_code
def yX0_umbrellasSuiting : MethodName := ⟨RX0, "umbrellasSuiting", "(I)I"⟩
abbrev cX0_matchAll : ByteArray := prog_2_method_10_code
def yX0_matchAll : MethodName := ⟨RX0, "matchAll", "(LOddUmbrellas$Office;)V"⟩
abbrev cX0_matchNone : ByteArray := prog_2_method_11_code
def yX0_matchNone : MethodName := ⟨RX0, "matchNone", "()V"⟩
abbrev cX0_bestFreePair : ByteArray := prog_2_method_12_code
def yX0_bestFreePair : MethodName := ⟨RX0, "bestFreePair", "()I"⟩
abbrev cX0_aheadOf : ByteArray := prog_2_method_13_code
def yX0_aheadOf : MethodName := ⟨RX0, "aheadOf", "(II)I"⟩
abbrev cX0_join : ByteArray := prog_2_method_14_code
def yX0_join : MethodName := ⟨RX0, "join", "(II)V"⟩
abbrev cX0_part : ByteArray := prog_2_method_15_code
def yX0_part : MethodName := ⟨RX0, "part", "(II)V"⟩
abbrev cX0_claimMatched : ByteArray := prog_2_method_16_code
def yX0_claimMatched : MethodName := ⟨RX0, "claimMatched", "(I)I"⟩
abbrev cX0_umbrellaMatched : ByteArray := prog_2_method_17_code
def yX0_umbrellaMatched : MethodName := ⟨RX0, "umbrellaMatched", "(I)I"⟩
abbrev cX0_worthOfMatched : ByteArray := prog_2_method_18_code
def yX0_worthOfMatched : MethodName := ⟨RX0, "worthOfMatched", "()I"⟩
abbrev cX0_reasonAgainst : ByteArray := prog_2_method_19_code
def yX0_reasonAgainst : MethodName := ⟨RX0, "reasonAgainst", "(IILOddUmbrellas$Office;)I"⟩
abbrev cX0_matchByAsking : ByteArray := prog_2_method_20_code
def yX0_matchByAsking : MethodName := ⟨RX0, "matchByAsking", "(LOddUmbrellas$Office;)V"⟩
abbrev cX0_nextAsk : ByteArray := prog_2_method_21_code
def yX0_nextAsk : MethodName := ⟨RX0, "nextAsk", "()I"⟩
abbrev cX0_nextPairOf : ByteArray := prog_2_method_22_code
def yX0_nextPairOf : MethodName := ⟨RX0, "nextPairOf", "(I)I"⟩
abbrev cX0_askFor : ByteArray := prog_2_method_23_code
def yX0_askFor : MethodName := ⟨RX0, "askFor", "(I)V"⟩
def RX1 : String := "OddUmbrellas$Office"
def TX1 : u_T := fun k => match k with
  | 0 => ("OddUmbrellas$Office", "umbrellas", "LOddUmbrellas$Rows;", true)
  | 1 => ("OddUmbrellas$Office", "claims", "LOddUmbrellas$Rows;", true)
  | 2 => ("OddUmbrellas$Office", "entries", "LOddUmbrellas$Rows;", true)
  | 3 => ("OddUmbrellas$Office", "settings", "[I", true)
  | _ => ("OddUmbrellas$Office", "sums", "[I", true)
def tyX1 : Nat → FieldType := fun k => match k with
  | 0 => .object "OddUmbrellas$Rows"
  | 1 => .object "OddUmbrellas$Rows"
  | 2 => .object "OddUmbrellas$Rows"
  | 3 => .array .int
  | _ => .array .int
abbrev wsX10 : List Cond := u_ws RX1 TX1 5
theorem nmX1 : ∀ a, a < 5 → ∀ b, b < 5 → a ≠ b → (TX1 a).2.1 ≠ (TX1 b).2.1 := by decide +kernel
theorem tyX1_ok : ∀ k, k < 5 → parseFieldDescriptor (TX1 k).2.2.1 = some (tyX1 k) := by decide +kernel
abbrev cX1_init : ByteArray := prog_3_method_1_code
def yX1_init : MethodName := ⟨RX1, "<init>", "()V"⟩
abbrev cX1_become : ByteArray := prog_3_method_2_code
def yX1_become : MethodName := ⟨RX1, "become", "(LOddUmbrellas$Office;)V"⟩
abbrev cX1_setting : ByteArray := prog_3_method_3_code
def yX1_setting : MethodName := ⟨RX1, "setting", "(I)I"⟩
abbrev cX1_sum : ByteArray := prog_3_method_4_code
def yX1_sum : MethodName := ⟨RX1, "sum", "(I)I"⟩
abbrev cX1_addTo : ByteArray := prog_3_method_5_code
def yX1_addTo : MethodName := ⟨RX1, "addTo", "(II)V"⟩
abbrev cX1_umbrellasWith : ByteArray := prog_3_method_6_code
def yX1_umbrellasWith : MethodName := ⟨RX1, "umbrellasWith", "(II)I"⟩
abbrev cX1_oddnessTogether : ByteArray := prog_3_method_7_code
def yX1_oddnessTogether : MethodName := ⟨RX1, "oddnessTogether", "(I)I"⟩
abbrev cX1_takeUmbrella : ByteArray := prog_3_method_8_code
def yX1_takeUmbrella : MethodName := ⟨RX1, "takeUmbrella", "(IIII)I"⟩
abbrev cX1_takeClaim : ByteArray := prog_3_method_9_code
def yX1_takeClaim : MethodName := ⟨RX1, "takeClaim", "(IIII)I"⟩
abbrev cX1_noteDetail : ByteArray := prog_3_method_10_code
def yX1_noteDetail : MethodName := ⟨RX1, "noteDetail", "(III)I"⟩
abbrev cX1_dropClaim : ByteArray := prog_3_method_11_code
def yX1_dropClaim : MethodName := ⟨RX1, "dropClaim", "(I)I"⟩
abbrev cX1_changeSetting : ByteArray := prog_3_method_12_code
def yX1_changeSetting : MethodName := ⟨RX1, "changeSetting", "(II)I"⟩
abbrev cX1_passWeeks : ByteArray := prog_3_method_13_code
def yX1_passWeeks : MethodName := ⟨RX1, "passWeeks", "(II)I"⟩
abbrev cX1_growOlder : ByteArray := prog_3_method_14_code
def yX1_growOlder : MethodName := ⟨RX1, "growOlder", "(LOddUmbrellas$Rows;)V"⟩
abbrev cX1_endOld : ByteArray := prog_3_method_15_code
def yX1_endOld : MethodName := ⟨RX1, "endOld", "(LOddUmbrellas$Rows;III)V"⟩
abbrev cX1_handOut : ByteArray := prog_3_method_16_code
def yX1_handOut : MethodName := ⟨RX1, "handOut", "(LOddUmbrellas$Matching;)I"⟩
abbrev cX1_enter : ByteArray := prog_3_method_17_code
def yX1_enter : MethodName := ⟨RX1, "enter", "(III)V"⟩
def RX2 : String := "OddUmbrellas$Rows"
def TX2 : u_T := fun k => match k with
  | 0 => ("OddUmbrellas$Rows", "cells", "[I", true)
  | _ => ("OddUmbrellas$Rows", "size", "I", false)
def tyX2 : Nat → FieldType := fun k => match k with
  | 0 => .array .int
  | _ => .int
abbrev wsX20 : List Cond := u_ws RX2 TX2 2
theorem nmX2 : ∀ a, a < 2 → ∀ b, b < 2 → a ≠ b → (TX2 a).2.1 ≠ (TX2 b).2.1 := by decide +kernel
theorem tyX2_ok : ∀ k, k < 2 → parseFieldDescriptor (TX2 k).2.2.1 = some (tyX2 k) := by decide +kernel
abbrev cX2_init : ByteArray := prog_4_method_1_code
def yX2_init : MethodName := ⟨RX2, "<init>", "()V"⟩
abbrev cX2_has : ByteArray := prog_4_method_2_code
def yX2_has : MethodName := ⟨RX2, "has", "(I)Z"⟩
abbrev cX2_cell : ByteArray := prog_4_method_3_code
def yX2_cell : MethodName := ⟨RX2, "cell", "(II)I"⟩
abbrev cX2_put : ByteArray := prog_4_method_4_code
def yX2_put : MethodName := ⟨RX2, "put", "(III)V"⟩
abbrev cX2_append : ByteArray := prog_4_method_5_code
def yX2_append : MethodName := ⟨RX2, "append", "(IIII)I"⟩
abbrev cX2_remove : ByteArray := prog_4_method_6_code
def yX2_remove : MethodName := ⟨RX2, "remove", "(I)V"⟩
abbrev cX2_become : ByteArray := prog_4_method_7_code
def yX2_become : MethodName := ⟨RX2, "become", "(LOddUmbrellas$Rows;)V"⟩
def RX3 : String := "OddUmbrellas$Text"
def TX3 : u_T := fun k => match k with
  | 0 => ("OddUmbrellas$Text", "signs", "[C", true)
  | 1 => ("OddUmbrellas$Text", "length", "I", false)
  | 2 => ("OddUmbrellas$Text", "place", "I", false)
  | 3 => ("OddUmbrellas$Text", "kind", "I", false)
  | _ => ("OddUmbrellas$Text", "numbers", "[I", true)
def tyX3 : Nat → FieldType := fun k => match k with
  | 0 => .array .char
  | 1 => .int
  | 2 => .int
  | 3 => .int
  | _ => .array .int
abbrev wsX30 : List Cond := u_ws RX3 TX3 5
theorem nmX3 : ∀ a, a < 5 → ∀ b, b < 5 → a ≠ b → (TX3 a).2.1 ≠ (TX3 b).2.1 := by decide +kernel
theorem tyX3_ok : ∀ k, k < 5 → parseFieldDescriptor (TX3 k).2.2.1 = some (tyX3 k) := by decide +kernel
abbrev cX3_init : ByteArray := prog_5_method_1_code
def yX3_init : MethodName := ⟨RX3, "<init>", "()V"⟩
def RX4 : String := "OddUmbrellas"
def TX4 : u_T := fun k => match k with
  | 0 => ("OddUmbrellas", "office", "LOddUmbrellas$Office;", true)
  | 1 => ("OddUmbrellas", "trial", "LOddUmbrellas$Office;", true)
  | 2 => ("OddUmbrellas", "matching", "LOddUmbrellas$Matching;", true)
  | 3 => ("OddUmbrellas", "history", "[LOddUmbrellas$Office;", true)
  | 4 => ("OddUmbrellas", "states", "I", false)
  | 5 => ("OddUmbrellas", "text", "LOddUmbrellas$Text;", true)
  | 6 => ("OddUmbrellas", "ordersTried", "I", false)
  | 7 => ("OddUmbrellas", "faultPlace", "I", false)
  | 8 => ("OddUmbrellas", "faultReason", "I", false)
  | _ => ("OddUmbrellas", "faultCause", "I", false)
def tyX4 : Nat → FieldType := fun k => match k with
  | 0 => .object "OddUmbrellas$Office"
  | 1 => .object "OddUmbrellas$Office"
  | 2 => .object "OddUmbrellas$Matching"
  | 3 => .array (.object "OddUmbrellas$Office")
  | 4 => .int
  | 5 => .object "OddUmbrellas$Text"
  | 6 => .int
  | 7 => .int
  | 8 => .int
  | _ => .int
abbrev wsX40 : List Cond := u_ws RX4 TX4 10
theorem nmX4 : ∀ a, a < 10 → ∀ b, b < 10 → a ≠ b → (TX4 a).2.1 ≠ (TX4 b).2.1 := by decide +kernel
theorem tyX4_ok : ∀ k, k < 10 → parseFieldDescriptor (TX4 k).2.2.1 = some (tyX4 k) := by decide +kernel
abbrev cX4_init : ByteArray := prog_1_method_1_code
def yX4_init : MethodName := ⟨RX4, "<init>", "()V"⟩
abbrev cX4_find : ByteArray := prog_1_method_2_code
def yX4_find : MethodName := ⟨RX4, "find", "(IIII)I"⟩
abbrev cX4_claim : ByteArray := prog_1_method_3_code
def yX4_claim : MethodName := ⟨RX4, "claim", "(IIII)I"⟩
abbrev cX4_tell : ByteArray := prog_1_method_4_code
def yX4_tell : MethodName := ⟨RX4, "tell", "(III)I"⟩
abbrev cX4_drop : ByteArray := prog_1_method_5_code
def yX4_drop : MethodName := ⟨RX4, "drop", "(I)I"⟩
abbrev cX4_weeks : ByteArray := prog_1_method_6_code
def yX4_weeks : MethodName := ⟨RX4, "weeks", "(I)I"⟩
abbrev cX4_hand : ByteArray := prog_1_method_7_code
def yX4_hand : MethodName := ⟨RX4, "hand", "()I"⟩
abbrev cX4_set : ByteArray := prog_1_method_8_code
def yX4_set : MethodName := ⟨RX4, "set", "(II)I"⟩
abbrev cX4_umbrella : ByteArray := prog_1_method_9_code
def yX4_umbrella : MethodName := ⟨RX4, "umbrella", "(II)I"⟩
abbrev cX4_claimOf : ByteArray := prog_1_method_10_code
def yX4_claimOf : MethodName := ⟨RX4, "claimOf", "(II)I"⟩
abbrev cX4_points : ByteArray := prog_1_method_11_code
def yX4_points : MethodName := ⟨RX4, "points", "(II)I"⟩
abbrev cX4_having : ByteArray := prog_1_method_12_code
def yX4_having : MethodName := ⟨RX4, "having", "(II)I"⟩
abbrev cX4_book : ByteArray := prog_1_method_13_code
def yX4_book : MethodName := ⟨RX4, "book", "(II)I"⟩
abbrev cX4_why : ByteArray := prog_1_method_14_code
def yX4_why : MethodName := ⟨RX4, "why", "(II)I"⟩
abbrev cX4_ifTold : ByteArray := prog_1_method_15_code
def yX4_ifTold : MethodName := ⟨RX4, "ifTold", "(III)I"⟩
abbrev cX4_oddest : ByteArray := prog_1_method_16_code
def yX4_oddest : MethodName := ⟨RX4, "oddest", "()I"⟩
abbrev cX4_ifWeeks : ByteArray := prog_1_method_17_code
def yX4_ifWeeks : MethodName := ⟨RX4, "ifWeeks", "(II)I"⟩
abbrev cX4_mean : ByteArray := prog_1_method_18_code
def yX4_mean : MethodName := ⟨RX4, "mean", "()I"⟩
abbrev cX4_count : ByteArray := prog_1_method_19_code
def yX4_count : MethodName := ⟨RX4, "count", "(I)I"⟩
abbrev cX4_undo : ByteArray := prog_1_method_20_code
def yX4_undo : MethodName := ⟨RX4, "undo", "()I"⟩
abbrev cX4_keepState : ByteArray := prog_1_method_25_code
def yX4_keepState : MethodName := ⟨RX4, "keepState", "()V"⟩
abbrev cX4_recorded : ByteArray := prog_1_method_26_code
def yX4_recorded : MethodName := ⟨RX4, "recorded", "(I)I"⟩
abbrev cX4_forgetOldestState : ByteArray := prog_1_method_27_code
def yX4_forgetOldestState : MethodName := ⟨RX4, "forgetOldestState", "()V"⟩
abbrev cX4_isPair : ByteArray := prog_1_method_31_code
def yX4_isPair : MethodName := ⟨RX4, "isPair", "(II)Z"⟩
abbrev cX4_isDetail : ByteArray := prog_1_method_32_code
def yX4_isDetail : MethodName := ⟨RX4, "isDetail", "(I)Z"⟩
abbrev cX4_isValue : ByteArray := prog_1_method_33_code
def yX4_isValue : MethodName := ⟨RX4, "isValue", "(I)Z"⟩
abbrev cX4_isValueOrNotTold : ByteArray := prog_1_method_34_code
def yX4_isValueOrNotTold : MethodName := ⟨RX4, "isValueOrNotTold", "(I)Z"⟩
abbrev cX4_isWeeksAtOnce : ByteArray := prog_1_method_35_code
def yX4_isWeeksAtOnce : MethodName := ⟨RX4, "isWeeksAtOnce", "(I)Z"⟩
abbrev cX4_orNotFound : ByteArray := prog_1_method_36_code
def yX4_orNotFound : MethodName := ⟨RX4, "orNotFound", "(I)I"⟩
abbrev cX4_numberAt : ByteArray := prog_1_method_37_code
def yX4_numberAt : MethodName := ⟨RX4, "numberAt", "([II)I"⟩
abbrev cX4_bitsOf : ByteArray := prog_1_method_38_code
def yX4_bitsOf : MethodName := ⟨RX4, "bitsOf", "(F)I"⟩
def RL : String := "OddUmbrellasLaw"
abbrev cL_cell : ByteArray := method_2_code
def yL_cell : MethodName := ⟨RL, "cell", "([II)I"⟩
abbrev cL_low : ByteArray := method_3_code
def yL_low : MethodName := ⟨RL, "low", "(II)I"⟩
abbrev cL_act : ByteArray := method_4_code
def yL_act : MethodName := ⟨RL, "act", "(LOddUmbrellas;II)I"⟩
abbrev cL_quotient : ByteArray := method_5_code
def yL_quotient : MethodName := ⟨RL, "quotient", "(II)I"⟩
abbrev cL_hangs : ByteArray := method_6_code
def yL_hangs : MethodName := ⟨RL, "hangs", "(LOddUmbrellas;)Z"⟩
abbrev cL_stable : ByteArray := method_7_code
def yL_stable : MethodName := ⟨RL, "stable", "(LOddUmbrellas;)Z"⟩
abbrev cL_print : ByteArray := method_8_code
def yL_print : MethodName := ⟨RL, "print", "(LOddUmbrellas;)J"⟩
abbrev cL_weeks : ByteArray := method_9_code
def yL_weeks : MethodName := ⟨RL, "weeks", "(LOddUmbrellas;I)Z"⟩
abbrev cL_hands : ByteArray := method_10_code
def yL_hands : MethodName := ⟨RL, "hands", "(LOddUmbrellas;)Z"⟩
abbrev cL_tells : ByteArray := method_11_code
def yL_tells : MethodName := ⟨RL, "tells", "(LOddUmbrellas;III)Z"⟩
abbrev cL_law : ByteArray := code
def yL_law : MethodName := ⟨RL, "law", "([I)Z"⟩
abbrev vwCl : List vw_C := [(RX0, TX0, 10), (RX1, TX1, 5), (RX2, TX2, 2), (RX3, TX3, 5), (RX4, TX4, 10)]
set_option maxRecDepth 100000 in
theorem inX0 : ∀ w ∈ u_ws RX0 TX0 10, w ∈ lw_tbl := by decide +kernel
set_option maxRecDepth 100000 in
theorem inX1 : ∀ w ∈ u_ws RX1 TX1 5, w ∈ lw_tbl := by decide +kernel
set_option maxRecDepth 100000 in
theorem inX2 : ∀ w ∈ u_ws RX2 TX2 2, w ∈ lw_tbl := by decide +kernel
set_option maxRecDepth 100000 in
theorem inX3 : ∀ w ∈ u_ws RX3 TX3 5, w ∈ lw_tbl := by decide +kernel
set_option maxRecDepth 100000 in
theorem inX4 : ∀ w ∈ u_ws RX4 TX4 10, w ∈ lw_tbl := by decide +kernel
/-! THE CLAIM OUT OF ONE WALK OF THE LAW'S BODY. Your part is whole_start (and what it stands on); all else here is the same for every law, but numbers. -/
def R_law : String := "OddUmbrellasLaw"
def lw_P (b : Addr) (xs : List Int32) (args : Array Value) (s : State) : Prop := args = #[.ref b] ∧ s.IntsAt b xs ∧ xs.length ≤ 260 ∧ (Jvm.Cond.and given_1 narrow_1).before args s = true
/-- what a walk over the start with the record d0 says of its end, said of the start itself -/
theorem lw_closed {s t : State} {o : Outcome} {d0 : Drawn} {L : List Loc} {k n : Nat} (hd0 : s.drawn.sameBut d0 lw_cs) (hv : ∃ v, o = .returned v) (hW : (s.setDrawn d0).WarmedH t.vm) (hs : (s.setDrawn d0).sameButNew ({ t with vm := s.vm } : State) L k n) : State.butDraws s t lw_cs (fun t1 => Framed s o t1 L k n) := by
  have h2 : t.drawn = d0 := congrArg State.drawn hs.1
  refine ⟨⟨hv, hW, State.sameButNew.setDrawn hs s.drawn⟩, ?_, by decide⟩
  rw [h2]
  exact hd0
def lw_Q (_ : Array Value) (s : State) (o : Outcome) (t : State) : Prop := o = .returned (some (.int 1)) ∧ State.butDraws s t lw_cs (fun t1 => Framed s o t1 [] 600000 7302250)
def lw_Z (below : List Frame) (a : Array Value) (s : State) : State → Prop := fun t => ∃ o, t.status = .running ∧ Ended t below o ∧ lw_Q a s o t
/-- the law's own end, with 1 on the stack, nothing written that was there before, its room as the claim has it; d0: the record of draws at this point (at the entry s.drawn: begin with 'refine W.base ?_' and 'have hd0 := Drawn.sameBut.refl s.drawn lw_cs') -/
theorem lw_ret {p : Program} {l : Launch} {e : Env} {s : State} {m : MethodId} {below : List Frame} {meth : Method} {c : Code} {b : Nat} {d0 : Drawn} (hd0 : s.drawn.sameBut d0 lw_cs) (hx : p.tables.exec = Jvm.exec) (hb : c.code = code) (hr : meth.sig.returnType = ret) (hlocks : meth.locks = false) {pc : Nat} {H : Heap} {ls : Array Slot} (hdg : decode code pc = .ok (.ireturn, 1)) : W p l e room_1 (s.setDrawn d0) m #[Value.ref b] below meth c H [] 600000 7302250 (lw_Z below #[Value.ref b] s) (F0 m pc ls [.int 1]) := by
  intro T hT X
  obtain ⟨fs, hret, hrun, hended, hW, hframe⟩ := X.leave (v := some (.int 1)) (hlocks := hlocks) (fun h => by rw [hr] at h; cases h)
  have hmeth' : T.vm.method? m = some meth := X.method'
  refine ⟨T.setFrames fs, ?_, .returned (some (.int 1)), hrun, hended, rfl, lw_closed hd0 ⟨_, rfl⟩ hW hframe⟩
  jvm_step X.here [X.here.top, hx, hb, hdg, hmeth', hr, ret, narrow_b1]
  (try refine ⟨rfl, ?_⟩); (try refine ⟨rfl, ?_⟩)
  first | (intro acts; rw [hret _ acts rfl rfl rfl]) | rw [hret _ _ rfl rfl rfl]
  exact Steps.refl _
/-- what holds at the law's entry: the machine, the code, the tables' words (any of lw_tbl by 'hts w (by decide +kernel)'), the script of L ints xs at the cell b, what the Statement gives of the start (any of its parts by flat_of_before) -/
def lw_At (p : Program) (s : State) (m : MethodId) (meth : Method) (c : Code) (b L : Nat) (xs : Nat → Int32) : Prop :=
  p.tables.exec = Jvm.exec ∧ c.code = code ∧ meth.sig.returnType = ret ∧ c.maxLocals = 10 ∧ s.vm.findClass R_law = some m.cls ∧ (∀ w ∈ lw_tbl, w.before #[Value.ref b] s = true) ∧ va_X b L xs s s.heap ∧ b < s.heap.size ∧ meth.locks = false ∧ (Jvm.Cond.and given_1 narrow_1).before #[Value.ref b] s = true
